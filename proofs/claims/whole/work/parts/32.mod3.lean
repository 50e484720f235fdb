/-! the reference reads the text -/
def tyA (g : Nat → Int32) (n p : Nat) : Int32 := if p < n then g p else -1
theorem tyA_eq {g : Nat → Int32} {n p k : Nat} (hk : k < 2 ^ 31) : tyA g n p = nI k ↔ p < n ∧ g p = nI k := by
  unfold tyA
  by_cases h : p < n
  · rw [if_pos h]; exact ⟨fun e => ⟨h, e⟩, fun e => e.2⟩
  · rw [if_neg h]
    refine ⟨fun e => ?_, fun e => absurd e.1 h⟩
    have := congrArg Int32.toInt e
    rw [nI_toInt hk] at this
    exact absurd this (by have : (-1 : Int32).toInt = -1 := by decide
                          omega)
theorem wd_c : ∀ i, i < 14 → 3 < wdL i ∧ wdL i < 20 ∧ ∀ k, k < wdL i → wdC i k < 256 := by decide +kernel
theorem wiD {v : Int32} : wiB v (nI 48) (nI 57) = isD v := rfl
theorem isL_ty {g : Nat → Int32} {n p : Nat} : isL (tyA g n p) = (decide (p < n) && isL (g p)) := by
  unfold tyA
  by_cases h : p < n
  · rw [if_pos h, decide_eq_true h, Bool.true_and]
  · rw [if_neg h, decide_eq_false h, Bool.false_and]; decide
theorem isD_ty {g : Nat → Int32} {n p : Nat} : isD (tyA g n p) = (decide (p < n) && isD (g p)) := by
  unfold tyA
  by_cases h : p < n
  · rw [if_pos h, decide_eq_true h, Bool.true_and]
  · rw [if_neg h, decide_eq_false h, Bool.false_and]; decide
/-- words as numbers: shifted k times -/
def wlN (L : Int64) : Nat → Int64
  | 0 => L
  | k + 1 => wlN L k >>> ((nI 8).toInt64 &&& 63)
def wdK (L : Int64) (i s0 : Nat) : Prop := (∀ k, k < wdL i - s0 → 0 < wlN L k ∧ (wlN L k &&& 255).toInt32 = nI (wdC i (s0 + k))) ∧ wlN L (wdL i - s0) = 0
theorem lgc_0 {x : Int64} : lg_cmp x 0 ≤ 0 ↔ ¬ 0 < x := by
  unfold lg_cmp
  by_cases h : x > 0
  · rw [if_pos h]
    exact ⟨fun w => absurd w (by decide), fun w => absurd h w⟩
  · rw [if_neg h]
    refine ⟨fun _ => h, fun _ => ?_⟩
    split <;> decide
/-- a word's first steps -/
theorem mw_hit {g : Nat → Int32} {n p i s fu : Nat} (h0 : 0 < fu) (h : tyA g n (p + s) = nI (wdC i s)) (hc : wdC i s < 256) : mw g n p i s fu = mw g n p i (s + 1) (fu - 1) := by
  cases fu with
  | zero => omega
  | succ fu => rw [mw, if_pos ((tyA_eq (by omega)).mp h)]; rfl
theorem mw_no {g : Nat → Int32} {n p i s fu : Nat} (h : ¬ tyA g n (p + s) = nI (wdC i s)) (hc : wdC i s < 256) : mw g n p i s fu = s := by
  cases fu with
  | zero => rfl
  | succ fu => rw [mw, if_neg (fun w => h ((tyA_eq (by omega)).mpr w))]
/-- of the words from k on just one may be read -/
theorem po_none {g : Nat → Int32} {n p : Nat} : ∀ (fu k most : Nat), (∀ j, k ≤ j → j < k + fu → mW0 g n p j ≤ most ∧ mW0 g n p j < wdL j) → po g n p k fu most = (none, p + most) := by
  intro fu
  induction fu with
  | zero => intro k most _; rfl
  | succ fu ih =>
    intro k most h
    have h1 := h k (Nat.le_refl _) (by omega)
    rw [po, if_neg (by omega), Nat.max_eq_left h1.1]
    exact ih (k + 1) most (fun j h2 h3 => h j (by omega) (by omega))
theorem po_one {g : Nat → Int32} {n p i : Nat} : ∀ (fu k most : Nat), k ≤ i → i < k + fu → most ≤ mW0 g n p i → (∀ j, k ≤ j → j < k + fu → j ≠ i → mW0 g n p j ≤ mW0 g n p i ∧ mW0 g n p j < wdL j) → po g n p k fu most = if mW0 g n p i = wdL i then (some i, p + wdL i) else (none, p + mW0 g n p i) := by
  intro fu
  induction fu with
  | zero => intro k most h1 h2; omega
  | succ fu ih =>
    intro k most h1 h2 hm h
    by_cases e : k = i
    · subst e
      rw [po]
      by_cases e2 : mW0 g n p k = wdL k
      · rw [if_pos e2, if_pos e2]
      · rw [if_neg e2, if_neg e2, Nat.max_eq_right hm]
        exact po_none fu (k + 1) _ (fun j h3 h4 => h j (by omega) (by omega) (by omega))
    · have h5 := h k (Nat.le_refl _) (by omega) e
      rw [po, if_neg (by omega)]
      exact ih (k + 1) _ (by omega) (by omega) (Nat.max_le.mpr ⟨hm, h5.1⟩) (fun j h3 h4 h6 => h j (by omega) (by omega) h6)
theorem mW0_0 {g : Nat → Int32} {n p j : Nat} (hj : j < 14) (h : ¬ tyA g n p = nI (wdC j 0)) : mW0 g n p j = 0 := by
  unfold mW0
  exact mw_no (by rw [Nat.add_zero]; exact h) ((wd_c j hj).2.2 0 (by have := (wd_c j hj).1; omega))
theorem mW0_1 {g : Nat → Int32} {n p j : Nat} (hj : j < 14) (h : ¬ tyA g n (p + 1) = nI (wdC j 1)) : mW0 g n p j ≤ 1 := by
  unfold mW0
  have h1 := (wd_c j hj).1
  by_cases e : tyA g n (p + 0) = nI (wdC j 0)
  · rw [mw_hit (by omega) e ((wd_c j hj).2.2 0 (by omega)), mw_no h ((wd_c j hj).2.2 1 (by omega))]
    exact Nat.le_refl _
  · rw [mw_no e ((wd_c j hj).2.2 0 (by omega))]
    omega
theorem mW0_2 {g : Nat → Int32} {n p j : Nat} (hj : j < 14) (h : tyA g n p = nI (wdC j 0)) : mW0 g n p j = mw g n p j 1 (wdL j - 1) := by
  unfold mW0
  exact mw_hit (by have := (wd_c j hj).1; omega) (by rw [Nat.add_zero]; exact h) ((wd_c j hj).2.2 0 (by have := (wd_c j hj).1; omega))
/-- a word told by its first character -/
theorem po_first {g : Nat → Int32} {n p i k fu : Nat} (hk : k + fu ≤ 14) (h1 : k ≤ i) (h2 : i < k + fu) (h : ∀ j, k ≤ j → j < k + fu → j ≠ i → ¬ tyA g n p = nI (wdC j 0)) : po g n p k fu 0 = if mW0 g n p i = wdL i then (some i, p + wdL i) else (none, p + mW0 g n p i) := by
  refine po_one fu k 0 h1 h2 (Nat.zero_le _) (fun j h3 h4 h5 => ?_)
  rw [mW0_0 (by omega) (h j h3 h4 h5)]
  exact ⟨Nat.zero_le _, by have := (wd_c j (by omega)).1; omega⟩
/-- the word's contract: where it ends, whether it is whole -/
theorem po_end {g : Nat → Int32} {n p i k fu : Nat} (h : po g n p k fu 0 = if mW0 g n p i = wdL i then (some i, p + wdL i) else (none, p + mW0 g n p i)) : (po g n p k fu 0).2 = p + mW0 g n p i ∧ ((po g n p k fu 0).1 = if mW0 g n p i = wdL i then some i else none) := by
  rw [h]
  by_cases e : mW0 g n p i = wdL i
  · rw [if_pos e, if_pos e]; exact ⟨by rw [e], rfl⟩
  · rw [if_neg e, if_neg e]; exact ⟨rfl, rfl⟩
theorem nI_ne {a b : Nat} (ha : a < 1000) (hb : b < 1000) (h : a ≠ b) : ¬ nI a = nI b := fun w => h ((nI_eq (by omega) (by omega)).mp w)
/-- a switch's other values -/
theorem sw_out {x : Int32} {lo hi : Nat} (hh : hi < 1000) (h : ∀ k, lo ≤ k → k ≤ hi → ¬ x = nI k) : x.toInt < (lo : Int) ∨ (hi : Int) < x.toInt := by
  by_cases h0 : x < 0
  · rw [Int32.lt_iff_toInt_lt, Int32.toInt_zero] at h0
    left; omega
  · obtain ⟨j, hj, rfl⟩ := nI_of h0
    rw [nI_toInt hj]
    by_cases e : lo ≤ j ∧ j ≤ hi
    · exact absurd rfl (h j e.1 e.2)
    · omega
/-- the command's character -/
def cmC (k : Nat) : Nat := [97, 100, 109, 111, 115, 112, 99].getD k 0
/-- what is known of a command's parts once it is whole -/
def cmD (g : Nat → Int32) (n p : Nat) (cm : Int32) (nu be en : Nat) : Prop := ∃ k, cmK g n p = some k ∧ cm = nI (cmC k) ∧ ((k = 1 ∨ k = 2 ∨ k = 3 ∨ k = 5) → nu = cmV g n p) ∧ ((k = 0 ∨ k = 4) → be = cmP g n p ∧ en = cmA g n p)
theorem ptF_l {g : Nat → Int32} {n fu p : Nat} {nd : Bool} (h : isL (tyA g n p) = true) : ptF g n (fu + 1) p nd = ptF g n fu (p + 1) false := by
  rw [isL_ty] at h
  simp only [Bool.and_eq_true, decide_eq_true_eq] at h
  rw [ptF, if_pos h.1, if_neg (fun e => by rw [e] at h; exact absurd h.2 (by decide)), if_pos h.2]
theorem ptF_b {g : Nat → Int32} {n fu p : Nat} {nd : Bool} (h : tyA g n p = nI 32) (hn : nd = false) (h0 : 0 < fu) : ptF g n (fu + 1) p nd = ptF g n fu (p + 1) true := by
  obtain ⟨h1, h2⟩ := (tyA_eq (by omega)).mp h
  rw [ptF, if_pos h1, if_pos h2, if_neg]
  rintro (e | e)
  · rw [hn] at e; cases e
  · omega
theorem ptF_s {g : Nat → Int32} {n fu p : Nat} {nd : Bool} (h : fu = 0 ∨ (isL (tyA g n p) = false ∧ (¬ tyA g n p = nI 32 ∨ nd = true ∨ fu ≤ 1))) : ptF g n fu p nd = (p, nd) := by
  cases fu with
  | zero => rfl
  | succ fu =>
    obtain ⟨h1, h2⟩ := h.resolve_left (by omega)
    rw [isL_ty] at h1
    rw [ptF]
    by_cases hp : p < n
    · rw [if_pos hp]
      rw [decide_eq_true hp, Bool.true_and] at h1
      by_cases hb : g p = nI 32
      · rw [if_pos hb, if_pos]
        rcases h2 with h2 | h2 | h2
        · exact absurd ((tyA_eq (by omega)).mpr ⟨hp, hb⟩) h2
        · exact Or.inl h2
        · exact Or.inr (by omega)
      · rw [if_neg hb, if_neg (by rw [h1]; decide)]
    · rw [if_neg hp]
theorem pnN_0 {g : Nat → Int32} {n p : Nat} (h : isD (tyA g n p) = false) : pnN g n p = 0 ∧ pnV g n p = 0 := by
  have h1 : pnN g n p = 0 := by
    rw [isD_ty] at h
    unfold pnN
    rw [if_neg]
    rintro ⟨h2, h3⟩
    rw [decide_eq_true h2, h3] at h
    cases h
  exact ⟨h1, by unfold pnV; rw [h1]; rfl⟩
theorem pnN_1 {g : Nat → Int32} {n p : Nat} (h : isD (tyA g n p) = true) (h2 : isD (tyA g n (p + 1)) = false) : pnN g n p = 1 ∧ pnV g n p = 10 * 0 + dg (g p) := by
  have h1 : pnN g n p = 1 := by
    rw [isD_ty] at h h2
    simp only [Bool.and_eq_true, decide_eq_true_eq] at h
    unfold pnN
    rw [if_pos h, if_neg]
    rintro ⟨h3, h4⟩
    rw [decide_eq_true h3, h4] at h2
    cases h2
  exact ⟨h1, by unfold pnV; rw [h1]; rfl⟩
theorem pnN_2 {g : Nat → Int32} {n p : Nat} (h : isD (tyA g n p) = true) (h2 : isD (tyA g n (p + 1)) = true) : pnN g n p = 2 ∧ pnV g n p = 10 * (10 * 0 + dg (g p)) + dg (g (p + 1)) := by
  have h1 : pnN g n p = 2 := by
    rw [isD_ty] at h h2
    simp only [Bool.and_eq_true, decide_eq_true_eq] at h h2
    unfold pnN
    rw [if_pos h, if_pos h2]
  exact ⟨h1, by unfold pnV; rw [h1]; rfl⟩
/-- a digit's value behind a number -/
theorem dg_step {g : Nat → Int32} {n p a : Nat} (h : isD (tyA g n p) = true) : nI a + tyA g n p - nI 48 = nI (a + dg (g p)) := by
  rw [isD_ty] at h
  simp only [Bool.and_eq_true, decide_eq_true_eq] at h
  have h1 := (isD_dg h.2).1
  unfold tyA
  rw [if_pos h.1, h1, nI_add, pk_sub (by omega), show a + (48 + dg (g p)) - 48 = a + dg (nI (48 + dg (g p))) by rw [← h1]; omega]
set_option maxRecDepth 100000 in
set_option maxHeartbeats 4000000 in
theorem n_typedAt {G : mG} {M : mM} {m sa ha c xa tl ra la qa al ka rm pa za wa ua ap nu be en : Nat} {fs fe cm : Int32} (hO : M m = some (300, .inl (8, nL sa ha c xa tl ra la qa al ka rm pa fs fe za wa ua ap cm nu be en))) {xt g : Nat → Int32} (hX : M xa = some (303, .inr (0, 80, .inl xt))) (hXg : ∀ k, k < tl → xt k = g k) (htl : tl ≤ 80) {p : Nat} (hp : p < 1000) : CC G iX7_typedAt 0 0 [.ref m, .int (nI p)] M (fun r M1 => r = some (.int (tyA g tl p)) ∧ M = M1) := by
  refine CC.of rfl (Nat.le_of_ble_eq_true rfl) rfl (fun X C Tr => ?_)
  show V X 0 0 0 [some (.ref m), some (.int (nI p))] [] M
  refine s_iload_n C 1 dX7_typedAt_0 rfl rfl ?_
  refine s_aload_n C 2 dX7_typedAt_1 rfl rfl ?_
  refine s_getf C 5 dX7_typedAt_2 rfl f_X7_120 hO rfl ?_
  refine s_icmp_geN C 17 8 dX7_typedAt_5 (by decide) rfl (by omega) (by omega) (fun z5 => ?_) (fun z5 => ?_)
  · skip
    refine s_iconst C 18 (-1) dX7_typedAt_17 rfl (by decide) ?_
    exact s_iret C dX7_typedAt_18 Tr rfl ⟨by unfold tyA; rw [if_neg (by omega)], rfl⟩
  · skip
    refine s_aload_n C 9 dX7_typedAt_8 rfl rfl ?_
    refine s_getf C 12 dX7_typedAt_9 rfl f_X7_16 hO rfl ?_
    refine s_iload_n C 13 dX7_typedAt_12 rfl rfl ?_
    refine s_iald C 14 dX7_typedAt_13 rfl hX (by omega) (by omega) ?_
    rw [hXg p (by omega)]
    refine s_goto C 18 dX7_typedAt_14 (by decide) ?_
    exact s_iret C dX7_typedAt_18 Tr rfl ⟨by unfold tyA; rw [if_pos (by omega)], rfl⟩

set_option maxRecDepth 100000 in
set_option maxHeartbeats 4000000 in
theorem n_isNext {G : mG} {M : mM} {m sa ha c xa tl ra la qa al ka rm pa za wa ua ap nu be en : Nat} {fs fe cm : Int32} (hO : M m = some (300, .inl (8, nL sa ha c xa tl ra la qa al ka rm pa fs fe za wa ua ap cm nu be en))) {xt g : Nat → Int32} (hX : M xa = some (303, .inr (0, 80, .inl xt))) (hXg : ∀ k, k < tl → xt k = g k) (htl : tl ≤ 80) {v : Int32} (hp : ap < 1000) : CC G iX7_isNext 0 0 [.ref m, .int v] M (fun r M1 => r = some (.int (mB (decide (tyA g tl ap = v)))) ∧ M1 m = some (300, .inl (8, nL sa ha c xa tl ra la qa al ka rm pa fs fe za wa ua (if tyA g tl ap = v then ap + 1 else ap) cm nu be en)) ∧ mZ [300] M M1) := by
  refine CC.of rfl (Nat.le_of_ble_eq_true rfl) rfl (fun X C Tr => ?_)
  show V X 0 0 0 [some (.ref m), some (.int v), none] [] M
  have hF : mZ [300] M M := mZ.rf
  refine s_aload_n C 1 dX7_isNext_0 rfl rfl ?_
  refine s_aload_n C 2 dX7_isNext_1 rfl rfl ?_
  refine s_getf C 5 dX7_isNext_2 rfl f_X7_123 hO rfl ?_
  refine s_invV C 8 0 0 [] (mRv_of hO rfl) dX7_isNext_5 rfl m_X7_126 (n_typedAt hO hX hXg htl (p := ap) (by omega)) rfl rfl rfl ⟨by decide, by decide⟩ (Nat.le_of_ble_eq_true rfl) (by omega) (by omega) ?_
  rintro _ M1 ⟨rfl, rfl⟩
  dsimp only [Option.toList, List.cons_append, List.nil_append]
  refine s_iload_n C 9 dX7_isNext_8 rfl rfl ?_
  refine s_icmp_ne C 16 12 dX7_isNext_9 (by decide) rfl (fun z9 => ?_) (fun z9 => ?_)
  · skip
    refine s_iconst C 17 (nI 0) dX7_isNext_16 rfl (by decide) ?_
    refine s_istore_n C 18 dX7_isNext_17 rfl rfl rfl ?_
    dsimp only [List.set]
    refine s_aload_n C 19 dX7_isNext_18 rfl rfl ?_
    refine s_dup C 20 dX7_isNext_19 rfl rfl ?_
    refine s_getf C 23 dX7_isNext_20 rfl f_X7_123 hO rfl ?_
    refine s_iload_n C 24 dX7_isNext_23 rfl rfl ?_
    refine s_if_eqN C 31 27 dX7_isNext_24 (by decide) rfl (by omega) (fun z24 => ?_) (fun z24 => ?_)
    · skip
      refine s_iconst C 32 (nI 0) dX7_isNext_31 rfl (by decide) ?_
      refine s_iaddN C 33 dX7_isNext_32 rfl ?_
      refine s_putU C 36 dX7_isNext_33 rfl p_X7_123 hO (by first | decide | omega) rfl rfl rfl (fs' := [.ref sa, .ref ha, .int (nI c), .ref xa, .int (nI tl), .ref ra, .ref la, .ref qa, .int (nI al), .ref ka, .int (nI rm), .ref pa, .int fs, .int fe, .ref za, .ref wa, .ref ua, .int (nI (ap + 0)), .int cm, .int (nI nu), .int (nI be), .int (nI en)]) rfl (fun M2 U3 => ?_)
      have hX := U3.o hO hX (by first | decide | omega)
      have hF := hF.put U3 hO (by first | decide | (simp; done) | (simp; omega) | (simp [*]; done))
      have hO := U3.s
      refine s_iload_n C 37 dX7_isNext_36 rfl rfl ?_
      exact s_zret C dX7_isNext_37 Tr rfl (by decide) ⟨rF (decide_eq_false z9), by rw [if_neg z9]; exact hO, hF⟩
    · skip
      omega
  · skip
    refine s_iconst C 13 (nI 1) dX7_isNext_12 rfl (by decide) ?_
    refine s_goto C 17 dX7_isNext_13 (by decide) ?_
    refine s_istore_n C 18 dX7_isNext_17 rfl rfl rfl ?_
    dsimp only [List.set]
    refine s_aload_n C 19 dX7_isNext_18 rfl rfl ?_
    refine s_dup C 20 dX7_isNext_19 rfl rfl ?_
    refine s_getf C 23 dX7_isNext_20 rfl f_X7_123 hO rfl ?_
    refine s_iload_n C 24 dX7_isNext_23 rfl rfl ?_
    refine s_if_eqN C 31 27 dX7_isNext_24 (by decide) rfl (by omega) (fun z24 => ?_) (fun z24 => ?_)
    · skip
      omega
    · skip
      refine s_iconst C 28 (nI 1) dX7_isNext_27 rfl (by decide) ?_
      refine s_goto C 32 dX7_isNext_28 (by decide) ?_
      refine s_iaddN C 33 dX7_isNext_32 rfl ?_
      refine s_putU C 36 dX7_isNext_33 rfl p_X7_123 hO (by first | decide | omega) rfl rfl rfl (fs' := [.ref sa, .ref ha, .int (nI c), .ref xa, .int (nI tl), .ref ra, .ref la, .ref qa, .int (nI al), .ref ka, .int (nI rm), .ref pa, .int fs, .int fe, .ref za, .ref wa, .ref ua, .int (nI (ap + 1)), .int cm, .int (nI nu), .int (nI be), .int (nI en)]) rfl (fun M4 U5 => ?_)
      have hX := U5.o hO hX (by first | decide | omega)
      have hF := hF.put U5 hO (by first | decide | (simp; done) | (simp; omega) | (simp [*]; done))
      have hO := U5.s
      refine s_iload_n C 37 dX7_isNext_36 rfl rfl ?_
      exact s_zret C dX7_isNext_37 Tr rfl (by decide) ⟨rT (decide_eq_true z9), by rw [if_pos z9]; exact hO, hF⟩

set_option maxRecDepth 100000 in
set_option maxHeartbeats 4000000 in
theorem n_readsWord {G : mG} {M : mM} {m sa ha c xa tl ra la qa al ka rm pa za wa ua nu be en : Nat} {fs fe cm : Int32} {p s0 i : Nat} {L : Int64} (hO : M m = some (300, .inl (8, nL sa ha c xa tl ra la qa al ka rm pa fs fe za wa ua (p + s0) cm nu be en))) {xt g : Nat → Int32} (hX : M xa = some (303, .inr (0, 80, .inl xt))) (hXg : ∀ k, k < tl → xt k = g k) (htl : tl ≤ 80) (hw : wdK L i s0) (hi : i < 14) (hs0 : s0 ≤ wdL i) (hp : p < 900) : CC G iX7_readsWord 0 0 [.ref m, .long L] M (fun r M1 => r = some (.int (mB (decide (mw g tl p i s0 (wdL i - s0) = wdL i)))) ∧ M1 m = some (300, .inl (8, nL sa ha c xa tl ra la qa al ka rm pa fs fe za wa ua (p + mw g tl p i s0 (wdL i - s0)) cm nu be en)) ∧ mZ [300] M M1) := by
  refine CC.of rfl (Nat.le_of_ble_eq_true rfl) rfl (fun X C Tr => ?_)
  show V X 0 0 0 [some (.ref m), some (.long L), none, none, none, none] [] M
  have hF : mZ [300] M M := mZ.rf
  have hwc := wd_c i hi
  refine s_lload_n C 1 dX7_readsWord_0 rfl rfl ?_
  refine s_lstore_n C 2 dX7_readsWord_1 rfl rfl rfl ?_
  dsimp only [List.set]
  refine s_iconst C 3 (nI 1) dX7_readsWord_2 rfl (by decide) ?_
  refine s_istore C 5 dX7_readsWord_3 rfl rfl rfl ?_
  dsimp only [List.set]
  suffices lp5 : ∀ (fu5 : Nat) (j r : Nat) (b : Bool) (M9 : mM), wdL i + 1 - r < fu5 → r ≤ wdL i - s0 → s0 + j ≤ wdL i → ((b = true ∧ r = j ∧ mw g tl p i s0 (wdL i - s0) = mw g tl p i (s0 + j) (wdL i - (s0 + j))) ∨ (b = false ∧ r = j + 1 ∧ s0 + j < wdL i ∧ mw g tl p i s0 (wdL i - s0) = s0 + j)) → M9 m = some (300, .inl (8, [.ref sa, .ref ha, .int (nI c), .ref xa, .int (nI tl), .ref ra, .ref la, .ref qa, .int (nI al), .ref ka, .int (nI rm), .ref pa, .int fs, .int fe, .ref za, .ref wa, .ref ua, .int (nI (p + (s0 + j))), .int cm, .int (nI nu), .int (nI be), .int (nI en)])) → M9 xa = some (303, .inr (0, 80, .inl xt)) → mZ [300] M M9 → V X 0 0 5 [some (.ref m), some (.long L), none, some (.long (wlN L r)), none, some (.int (mB b))] [] M9 from lp5 (wdL i + 2) 0 0 true _ (by omega) (by omega) (by omega) (Or.inl ⟨rfl, rfl, rfl⟩) hO hX hF
  intro fu5
  induction fu5 with
  | zero => intro j r b M9 hr0 hr1 hj hb hO hX hF; omega
  | succ fu5 ih5 =>
    intro j r b M9 hr0 hr1 hj hb hO hX hF
    refine s_lload_n C 6 dX7_readsWord_5 rfl rfl ?_
    refine s_lconst C 7 0 dX7_readsWord_6 rfl (by decide) ?_
    refine s_lcmp C 8 dX7_readsWord_7 rfl ?_
    refine s_if_le C 36 11 dX7_readsWord_8 (by decide) rfl (fun z8 => ?_) (fun z8 => ?_)
    · skip
      have hre : r = wdL i - s0 := by by_cases e : r < wdL i - s0; (· exact absurd (hw.1 r e).1 (lgc_0.mp z8)); omega
      have hz : b = decide (mw g tl p i s0 (wdL i - s0) = wdL i) ∧ s0 + j = mw g tl p i s0 (wdL i - s0) := by rcases hb with ⟨h1, h2, h3⟩ | ⟨h1, h2, h3, h4⟩; (· have h5 : mw g tl p i s0 (wdL i - s0) = s0 + j := (by rw [h3, show wdL i - (s0 + j) = 0 by omega] <;> rfl); exact ⟨by rw [h1, h5]; exact (decide_eq_true (by omega)).symm, h5.symm⟩); exact ⟨by rw [h1, h4]; exact (decide_eq_false (by omega)).symm, h4.symm⟩
      refine s_iload C 38 dX7_readsWord_36 rfl rfl ?_
      exact s_zret C dX7_readsWord_38 Tr rfl (mB_z _) ⟨by rw [hz.1], by rw [← hz.2]; exact hO, hF⟩
    · skip
      have hrl : r < wdL i - s0 := by by_cases e : r < wdL i - s0; (· exact e); exact absurd (lgc_0.mpr (by rw [show r = wdL i - s0 by omega, hw.2]; decide)) z8
      refine s_iload C 13 dX7_readsWord_11 rfl rfl ?_
      refine s_if_eqB C 36 16 dX7_readsWord_13 (by decide) rfl (fun z13 => ?_) (fun z13 => ?_)
      · skip
        have hz : b = decide (mw g tl p i s0 (wdL i - s0) = wdL i) ∧ s0 + j = mw g tl p i s0 (wdL i - s0) := by rcases hb with ⟨h1, -⟩ | ⟨h1, h2, h3, h4⟩; (· rw [z13] at h1; cases h1); exact ⟨by rw [h1, h4]; exact (decide_eq_false (by omega)).symm, h4.symm⟩
        refine s_iload C 38 dX7_readsWord_36 rfl rfl ?_
        exact s_zret C dX7_readsWord_38 Tr rfl (mB_z _) ⟨by rw [hz.1], by rw [← hz.2]; exact hO, hF⟩
      · skip
        obtain ⟨hrj, hMW⟩ : r = j ∧ mw g tl p i s0 (wdL i - s0) = mw g tl p i (s0 + j) (wdL i - (s0 + j)) := by rcases hb with ⟨-, h2, h3⟩ | ⟨h1, -⟩; (· exact ⟨h2, h3⟩); rw [z13] at h1; cases h1
        refine s_aload_n C 17 dX7_readsWord_16 rfl rfl ?_
        refine s_lload_n C 18 dX7_readsWord_17 rfl rfl ?_
        refine s_ldc2 C 21 (255) dX7_readsWord_18 rfl l_X7_129 ?_
        refine s_land C 22 dX7_readsWord_21 rfl ?_
        refine s_l2i C 23 dX7_readsWord_22 rfl ?_
        rw [(hw.1 r hrl).2, hrj]
        refine s_invV C 26 0 0 [] (mRv_of hO rfl) dX7_readsWord_23 rfl m_X7_131 (n_isNext hO hX hXg htl (v := nI (wdC i (s0 + j))) (by omega)) rfl rfl rfl ⟨by decide, by decide⟩ (Nat.le_of_ble_eq_true rfl) (by omega) (by omega) ?_
        rintro _ M1 ⟨rfl, hO7, hFn⟩
        dsimp only [Option.toList, List.cons_append, List.nil_append]
        have hX := hFn.at hX (by decide)
        have hO := hO7
        have hF := hF.tr hFn
        by_cases hq : tyA g tl (p + (s0 + j)) = nI (wdC i (s0 + j))
        · skip
          rw [decide_eq_true hq]
          rw [if_pos hq] at hO
          refine s_istore C 28 dX7_readsWord_26 rfl rfl rfl ?_
          dsimp only [List.set]
          refine s_lload_n C 29 dX7_readsWord_28 rfl rfl ?_
          refine s_bipush C 31 (nI 8) dX7_readsWord_29 rfl (by decide) ?_
          refine s_lshr C 32 dX7_readsWord_31 rfl ?_
          refine s_lstore_n C 33 dX7_readsWord_32 rfl rfl rfl ?_
          dsimp only [List.set]
          refine s_goto C 5 dX7_readsWord_33 (by decide) ?_
          exact ih5 (j + 1) (j + 1) true _ (by omega) (by omega) (by omega) (Or.inl ⟨rfl, by omega, by rw [hMW, mw_hit (by omega) hq (hwc.2.2 _ (by omega)), show wdL i - (s0 + j) - 1 = wdL i - (s0 + (j + 1)) by omega]; rfl⟩) hO hX hF
        · skip
          rw [decide_eq_false hq]
          rw [if_neg hq] at hO
          refine s_istore C 28 dX7_readsWord_26 rfl rfl rfl ?_
          dsimp only [List.set]
          refine s_lload_n C 29 dX7_readsWord_28 rfl rfl ?_
          refine s_bipush C 31 (nI 8) dX7_readsWord_29 rfl (by decide) ?_
          refine s_lshr C 32 dX7_readsWord_31 rfl ?_
          refine s_lstore_n C 33 dX7_readsWord_32 rfl rfl rfl ?_
          dsimp only [List.set]
          refine s_goto C 5 dX7_readsWord_33 (by decide) ?_
          exact ih5 j (j + 1) false _ (by omega) (by omega) (by omega) (Or.inr ⟨rfl, by omega, by omega, by rw [hMW, mw_no hq (hwc.2.2 _ (by omega))]⟩) hO hX hF

set_option maxRecDepth 100000 in
set_option maxHeartbeats 4000000 in
theorem n_readsTitle {G : mG} {M : mM} {m sa ha c xa tl ra la qa al ka rm pa za wa ua ap nu be en : Nat} {fs fe cm : Int32} (hO : M m = some (300, .inl (8, nL sa ha c xa tl ra la qa al ka rm pa fs fe za wa ua ap cm nu be en))) {xt g : Nat → Int32} (hX : M xa = some (303, .inr (0, 80, .inl xt))) (hXg : ∀ k, k < tl → xt k = g k) (htl : tl ≤ 80) (hp : ap < 900) : CC G iX7_readsTitle 0 0 [.ref m] M (fun r M1 => r = some (.int (mB (!(ptF g tl 24 ap true).2))) ∧ M1 m = some (300, .inl (8, nL sa ha c xa tl ra la qa al ka rm pa fs fe za wa ua ((ptF g tl 24 ap true).1) cm nu ap ((ptF g tl 24 ap true).1))) ∧ mZ [300] M M1) := by
  refine CC.of rfl (Nat.le_of_ble_eq_true rfl) rfl (fun X C Tr => ?_)
  show V X 0 0 0 [some (.ref m), none, none, none, none] [] M
  have hF : mZ [300] M M := mZ.rf
  refine s_aload_n C 1 dX7_readsTitle_0 rfl rfl ?_
  refine s_aload_n C 2 dX7_readsTitle_1 rfl rfl ?_
  refine s_getf C 5 dX7_readsTitle_2 rfl f_X7_123 hO rfl ?_
  refine s_putU C 8 dX7_readsTitle_5 rfl p_X7_134 hO (by first | decide | omega) rfl rfl rfl (fs' := [.ref sa, .ref ha, .int (nI c), .ref xa, .int (nI tl), .ref ra, .ref la, .ref qa, .int (nI al), .ref ka, .int (nI rm), .ref pa, .int fs, .int fe, .ref za, .ref wa, .ref ua, .int (nI ap), .int cm, .int (nI nu), .int (nI ap), .int (nI en)]) rfl (fun M1 U2 => ?_)
  have hX := U2.o hO hX (by first | decide | omega)
  have hF := hF.put U2 hO (by first | decide | (simp; done) | (simp; omega) | (simp [*]; done))
  have hO := U2.s
  refine s_iconst C 9 (nI 1) dX7_readsTitle_8 rfl (by decide) ?_
  refine s_istore_n C 10 dX7_readsTitle_9 rfl rfl rfl ?_
  dsimp only [List.set]
  suffices lp10 : ∀ (fu10 : Nat) (cnt : Nat) (nd : Bool) (M9 : mM), 25 - cnt < fu10 → cnt ≤ 24 → ptF g tl 24 ap true = ptF g tl (24 - cnt) (ap + cnt) nd → nd = !(decide (0 < cnt) && isL (tyA g tl (ap + cnt - 1))) → M9 m = some (300, .inl (8, [.ref sa, .ref ha, .int (nI c), .ref xa, .int (nI tl), .ref ra, .ref la, .ref qa, .int (nI al), .ref ka, .int (nI rm), .ref pa, .int fs, .int fe, .ref za, .ref wa, .ref ua, .int (nI (ap + cnt)), .int cm, .int (nI nu), .int (nI ap), .int (nI en)])) → M9 xa = some (303, .inr (0, 80, .inl xt)) → mZ [300] M M9 → V X 0 0 10 [some (.ref m), some (.int (nI 1)), none, none, none] [] M9 from lp10 26 0 true _ (by omega) (by omega) rfl rfl hO hX hF
  intro fu10
  induction fu10 with
  | zero => intro cnt nd M9 hc0 hc hpt hnd hO hX hF; omega
  | succ fu10 ih10 =>
    intro cnt nd M9 hc0 hc hpt hnd hO hX hF
    refine s_iload_n C 11 dX7_readsTitle_10 rfl rfl ?_
    refine s_if_eqN C 117 14 dX7_readsTitle_11 (by decide) rfl (by omega) (fun z11 => ?_) (fun z11 => ?_)
    · skip
      omega
    · skip
      refine s_aload_n C 15 dX7_readsTitle_14 rfl rfl ?_
      refine s_aload_n C 16 dX7_readsTitle_15 rfl rfl ?_
      refine s_getf C 19 dX7_readsTitle_16 rfl f_X7_123 hO rfl ?_
      refine s_invV C 22 0 0 [] (mRv_of hO rfl) dX7_readsTitle_19 rfl m_X7_126 (n_typedAt hO hX hXg htl (p := (ap + cnt)) (by omega)) rfl rfl rfl ⟨by decide, by decide⟩ (Nat.le_of_ble_eq_true rfl) (by omega) (by omega) ?_
      rintro _ M3 ⟨rfl, rfl⟩
      dsimp only [Option.toList, List.cons_append, List.nil_append]
      refine s_istore_n C 23 dX7_readsTitle_22 rfl rfl rfl ?_
      dsimp only [List.set]
      refine s_aload_n C 24 dX7_readsTitle_23 rfl rfl ?_
      refine s_getf C 27 dX7_readsTitle_24 rfl f_X7_123 hO rfl ?_
      refine s_aload_n C 28 dX7_readsTitle_27 rfl rfl ?_
      refine s_getf C 31 dX7_readsTitle_28 rfl f_X7_134 hO rfl ?_
      refine s_isubN C 32 dX7_readsTitle_31 rfl (by omega) ?_
      rw [show ap + cnt - ap = cnt by omega]
      refine s_istore_n C 33 dX7_readsTitle_32 rfl rfl rfl ?_
      dsimp only [List.set]
      refine s_iload_n C 34 dX7_readsTitle_33 rfl rfl ?_
      refine s_if_leN C 57 37 dX7_readsTitle_34 (by decide) rfl (by omega) (fun z34 => ?_) (fun z34 => ?_)
      · skip
        have hndv : nd = true := by rw [hnd, decide_eq_false (by omega)]; rfl
        refine s_iconst C 58 (nI 0) dX7_readsTitle_57 rfl (by decide) ?_
        refine s_istore C 60 dX7_readsTitle_58 rfl rfl rfl ?_
        dsimp only [List.set]
        refine s_iload_n C 61 dX7_readsTitle_60 rfl rfl ?_
        refine s_invS C 64 0 0 [] dX7_readsTitle_61 rfl m_X7_137 (n_isLetter) rfl rfl rfl ⟨by decide, by decide⟩ (Nat.le_of_ble_eq_true rfl) (by omega) (by omega) ?_
        rintro _ M4 ⟨rfl, rfl⟩
        dsimp only [Option.toList, List.cons_append, List.nil_append]
        refine s_if_eqB C 73 67 dX7_readsTitle_64 (by decide) rfl (fun z64 => ?_) (fun z64 => ?_)
        · skip
          refine s_iload_n C 74 dX7_readsTitle_73 rfl rfl ?_
          refine s_bipush C 76 (nI 32) dX7_readsTitle_74 rfl (by decide) ?_
          refine s_icmp_ne C 94 79 dX7_readsTitle_76 (by decide) rfl (fun z76 => ?_) (fun z76 => ?_)
          · skip
            have hst : ptF g tl 24 ap true = (ap + cnt, nd) := by rw [hpt]; exact ptF_s (Or.inr ⟨z64, Or.inl z76⟩)
            refine s_iconst C 95 (nI 0) dX7_readsTitle_94 rfl (by decide) ?_
            refine s_istore_n C 96 dX7_readsTitle_95 rfl rfl rfl ?_
            dsimp only [List.set]
            refine s_aload_n C 97 dX7_readsTitle_96 rfl rfl ?_
            refine s_dup C 98 dX7_readsTitle_97 rfl rfl ?_
            refine s_getf C 101 dX7_readsTitle_98 rfl f_X7_123 hO rfl ?_
            refine s_iload_n C 102 dX7_readsTitle_101 rfl rfl ?_
            refine s_if_eqN C 109 105 dX7_readsTitle_102 (by decide) rfl (by omega) (fun z102 => ?_) (fun z102 => ?_)
            · skip
              refine s_iconst C 110 (nI 0) dX7_readsTitle_109 rfl (by decide) ?_
              refine s_iaddN C 111 dX7_readsTitle_110 rfl ?_
              refine s_putU C 114 dX7_readsTitle_111 rfl p_X7_123 hO (by first | decide | omega) rfl rfl rfl (fs' := [.ref sa, .ref ha, .int (nI c), .ref xa, .int (nI tl), .ref ra, .ref la, .ref qa, .int (nI al), .ref ka, .int (nI rm), .ref pa, .int fs, .int fe, .ref za, .ref wa, .ref ua, .int (nI ((ap + cnt) + 0)), .int cm, .int (nI nu), .int (nI ap), .int (nI en)]) rfl (fun M5 U6 => ?_)
              have hX := U6.o hO hX (by first | decide | omega)
              have hF := hF.put U6 hO (by first | decide | (simp; done) | (simp; omega) | (simp [*]; done))
              have hO := U6.s
              refine s_goto C 10 dX7_readsTitle_114 (by decide) ?_
              refine s_iload_n C 11 dX7_readsTitle_10 rfl rfl ?_
              refine s_if_eqN C 117 14 dX7_readsTitle_11 (by decide) rfl (by omega) (fun z11 => ?_) (fun z11 => ?_)
              · skip
                refine s_aload_n C 118 dX7_readsTitle_117 rfl rfl ?_
                refine s_aload_n C 119 dX7_readsTitle_118 rfl rfl ?_
                refine s_getf C 122 dX7_readsTitle_119 rfl f_X7_123 hO rfl ?_
                refine s_putU C 125 dX7_readsTitle_122 rfl p_X7_140 hO (by first | decide | omega) rfl rfl rfl (fs' := [.ref sa, .ref ha, .int (nI c), .ref xa, .int (nI tl), .ref ra, .ref la, .ref qa, .int (nI al), .ref ka, .int (nI rm), .ref pa, .int fs, .int fe, .ref za, .ref wa, .ref ua, .int (nI ((ap + cnt) + 0)), .int cm, .int (nI nu), .int (nI ap), .int (nI ((ap + cnt) + 0))]) rfl (fun M7 U8 => ?_)
                have hX := U8.o hO hX (by first | decide | omega)
                have hF := hF.put U8 hO (by first | decide | (simp; done) | (simp; omega) | (simp [*]; done))
                have hO := U8.s
                refine s_aload_n C 126 dX7_readsTitle_125 rfl rfl ?_
                refine s_getf C 129 dX7_readsTitle_126 rfl f_X7_123 hO rfl ?_
                refine s_aload_n C 130 dX7_readsTitle_129 rfl rfl ?_
                refine s_getf C 133 dX7_readsTitle_130 rfl f_X7_134 hO rfl ?_
                refine s_icmp_leN C 156 136 dX7_readsTitle_133 (by decide) rfl (by omega) (by omega) (fun z133 => ?_) (fun z133 => ?_)
                · skip
                  refine s_iconst C 157 (nI 0) dX7_readsTitle_156 rfl (by decide) ?_
                  exact s_zret C dX7_readsTitle_157 Tr rfl (by decide) ⟨rF (by rw [hst]; show (!nd) = _; rw [hndv]; rfl), by rw [hst]; exact hO, hF⟩
                · skip
                  omega
              · skip
                omega
            · skip
              omega
          · skip
            refine s_iload C 81 dX7_readsTitle_79 rfl rfl ?_
            refine s_if_eqN C 94 84 dX7_readsTitle_81 (by decide) rfl (by omega) (fun z81 => ?_) (fun z81 => ?_)
            · skip
              have hst : ptF g tl 24 ap true = (ap + cnt, nd) := by rw [hpt]; exact ptF_s (Or.inr ⟨z64, Or.inr (Or.inl hndv)⟩)
              refine s_iconst C 95 (nI 0) dX7_readsTitle_94 rfl (by decide) ?_
              refine s_istore_n C 96 dX7_readsTitle_95 rfl rfl rfl ?_
              dsimp only [List.set]
              refine s_aload_n C 97 dX7_readsTitle_96 rfl rfl ?_
              refine s_dup C 98 dX7_readsTitle_97 rfl rfl ?_
              refine s_getf C 101 dX7_readsTitle_98 rfl f_X7_123 hO rfl ?_
              refine s_iload_n C 102 dX7_readsTitle_101 rfl rfl ?_
              refine s_if_eqN C 109 105 dX7_readsTitle_102 (by decide) rfl (by omega) (fun z102 => ?_) (fun z102 => ?_)
              · skip
                refine s_iconst C 110 (nI 0) dX7_readsTitle_109 rfl (by decide) ?_
                refine s_iaddN C 111 dX7_readsTitle_110 rfl ?_
                refine s_putU C 114 dX7_readsTitle_111 rfl p_X7_123 hO (by first | decide | omega) rfl rfl rfl (fs' := [.ref sa, .ref ha, .int (nI c), .ref xa, .int (nI tl), .ref ra, .ref la, .ref qa, .int (nI al), .ref ka, .int (nI rm), .ref pa, .int fs, .int fe, .ref za, .ref wa, .ref ua, .int (nI ((ap + cnt) + 0)), .int cm, .int (nI nu), .int (nI ap), .int (nI en)]) rfl (fun M9 U10 => ?_)
                have hX := U10.o hO hX (by first | decide | omega)
                have hF := hF.put U10 hO (by first | decide | (simp; done) | (simp; omega) | (simp [*]; done))
                have hO := U10.s
                refine s_goto C 10 dX7_readsTitle_114 (by decide) ?_
                refine s_iload_n C 11 dX7_readsTitle_10 rfl rfl ?_
                refine s_if_eqN C 117 14 dX7_readsTitle_11 (by decide) rfl (by omega) (fun z11 => ?_) (fun z11 => ?_)
                · skip
                  refine s_aload_n C 118 dX7_readsTitle_117 rfl rfl ?_
                  refine s_aload_n C 119 dX7_readsTitle_118 rfl rfl ?_
                  refine s_getf C 122 dX7_readsTitle_119 rfl f_X7_123 hO rfl ?_
                  refine s_putU C 125 dX7_readsTitle_122 rfl p_X7_140 hO (by first | decide | omega) rfl rfl rfl (fs' := [.ref sa, .ref ha, .int (nI c), .ref xa, .int (nI tl), .ref ra, .ref la, .ref qa, .int (nI al), .ref ka, .int (nI rm), .ref pa, .int fs, .int fe, .ref za, .ref wa, .ref ua, .int (nI ((ap + cnt) + 0)), .int cm, .int (nI nu), .int (nI ap), .int (nI ((ap + cnt) + 0))]) rfl (fun M11 U12 => ?_)
                  have hX := U12.o hO hX (by first | decide | omega)
                  have hF := hF.put U12 hO (by first | decide | (simp; done) | (simp; omega) | (simp [*]; done))
                  have hO := U12.s
                  refine s_aload_n C 126 dX7_readsTitle_125 rfl rfl ?_
                  refine s_getf C 129 dX7_readsTitle_126 rfl f_X7_123 hO rfl ?_
                  refine s_aload_n C 130 dX7_readsTitle_129 rfl rfl ?_
                  refine s_getf C 133 dX7_readsTitle_130 rfl f_X7_134 hO rfl ?_
                  refine s_icmp_leN C 156 136 dX7_readsTitle_133 (by decide) rfl (by omega) (by omega) (fun z133 => ?_) (fun z133 => ?_)
                  · skip
                    refine s_iconst C 157 (nI 0) dX7_readsTitle_156 rfl (by decide) ?_
                    exact s_zret C dX7_readsTitle_157 Tr rfl (by decide) ⟨rF (by rw [hst]; show (!nd) = _; rw [hndv]; rfl), by rw [hst]; exact hO, hF⟩
                  · skip
                    omega
                · skip
                  omega
              · skip
                omega
            · skip
              omega
        · skip
          refine s_iload_n C 68 dX7_readsTitle_67 rfl rfl ?_
          refine s_bipush C 70 (nI 24) dX7_readsTitle_68 rfl (by decide) ?_
          refine s_icmp_ltN C 90 73 dX7_readsTitle_70 (by decide) rfl (by omega) (by omega) (fun z70 => ?_) (fun z70 => ?_)
          · skip
            have hst : ptF g tl 24 ap true = ptF g tl (24 - (cnt + 1)) (ap + (cnt + 1)) false := by rw [hpt, show 24 - cnt = (24 - (cnt + 1)) + 1 by omega]; exact ptF_l z64
            have hnd2 : false = !(decide (0 < cnt + 1) && isL (tyA g tl (ap + (cnt + 1) - 1))) := by rw [show ap + (cnt + 1) - 1 = ap + cnt by omega, z64, decide_eq_true (by omega)]; rfl
            refine s_iconst C 91 (nI 1) dX7_readsTitle_90 rfl (by decide) ?_
            refine s_goto C 95 dX7_readsTitle_91 (by decide) ?_
            refine s_istore_n C 96 dX7_readsTitle_95 rfl rfl rfl ?_
            dsimp only [List.set]
            refine s_aload_n C 97 dX7_readsTitle_96 rfl rfl ?_
            refine s_dup C 98 dX7_readsTitle_97 rfl rfl ?_
            refine s_getf C 101 dX7_readsTitle_98 rfl f_X7_123 hO rfl ?_
            refine s_iload_n C 102 dX7_readsTitle_101 rfl rfl ?_
            refine s_if_eqN C 109 105 dX7_readsTitle_102 (by decide) rfl (by omega) (fun z102 => ?_) (fun z102 => ?_)
            · skip
              omega
            · skip
              refine s_iconst C 106 (nI 1) dX7_readsTitle_105 rfl (by decide) ?_
              refine s_goto C 110 dX7_readsTitle_106 (by decide) ?_
              refine s_iaddN C 111 dX7_readsTitle_110 rfl ?_
              refine s_putU C 114 dX7_readsTitle_111 rfl p_X7_123 hO (by first | decide | omega) rfl rfl rfl (fs' := [.ref sa, .ref ha, .int (nI c), .ref xa, .int (nI tl), .ref ra, .ref la, .ref qa, .int (nI al), .ref ka, .int (nI rm), .ref pa, .int fs, .int fe, .ref za, .ref wa, .ref ua, .int (nI ((ap + cnt) + 1)), .int cm, .int (nI nu), .int (nI ap), .int (nI en)]) rfl (fun M13 U14 => ?_)
              have hX := U14.o hO hX (by first | decide | omega)
              have hF := hF.put U14 hO (by first | decide | (simp; done) | (simp; omega) | (simp [*]; done))
              have hO := U14.s
              refine s_goto C 10 dX7_readsTitle_114 (by decide) ?_
              refine V.drop 2 ?_
              dsimp only [List.set]
              refine V.drop 3 ?_
              dsimp only [List.set]
              refine V.drop 4 ?_
              dsimp only [List.set]
              exact ih10 (cnt + 1) false _ (by omega) (by omega) hst hnd2 hO hX hF
          · skip
            refine s_iload_n C 74 dX7_readsTitle_73 rfl rfl ?_
            refine s_bipush C 76 (nI 32) dX7_readsTitle_74 rfl (by decide) ?_
            refine s_icmp_ne C 94 79 dX7_readsTitle_76 (by decide) rfl (fun z76 => ?_) (fun z76 => ?_)
            · skip
              have hst : ptF g tl 24 ap true = (ap + cnt, nd) := by rw [hpt, show 24 - cnt = 0 by omega]; rfl
              refine s_iconst C 95 (nI 0) dX7_readsTitle_94 rfl (by decide) ?_
              refine s_istore_n C 96 dX7_readsTitle_95 rfl rfl rfl ?_
              dsimp only [List.set]
              refine s_aload_n C 97 dX7_readsTitle_96 rfl rfl ?_
              refine s_dup C 98 dX7_readsTitle_97 rfl rfl ?_
              refine s_getf C 101 dX7_readsTitle_98 rfl f_X7_123 hO rfl ?_
              refine s_iload_n C 102 dX7_readsTitle_101 rfl rfl ?_
              refine s_if_eqN C 109 105 dX7_readsTitle_102 (by decide) rfl (by omega) (fun z102 => ?_) (fun z102 => ?_)
              · skip
                refine s_iconst C 110 (nI 0) dX7_readsTitle_109 rfl (by decide) ?_
                refine s_iaddN C 111 dX7_readsTitle_110 rfl ?_
                refine s_putU C 114 dX7_readsTitle_111 rfl p_X7_123 hO (by first | decide | omega) rfl rfl rfl (fs' := [.ref sa, .ref ha, .int (nI c), .ref xa, .int (nI tl), .ref ra, .ref la, .ref qa, .int (nI al), .ref ka, .int (nI rm), .ref pa, .int fs, .int fe, .ref za, .ref wa, .ref ua, .int (nI ((ap + cnt) + 0)), .int cm, .int (nI nu), .int (nI ap), .int (nI en)]) rfl (fun M15 U16 => ?_)
                have hX := U16.o hO hX (by first | decide | omega)
                have hF := hF.put U16 hO (by first | decide | (simp; done) | (simp; omega) | (simp [*]; done))
                have hO := U16.s
                refine s_goto C 10 dX7_readsTitle_114 (by decide) ?_
                refine s_iload_n C 11 dX7_readsTitle_10 rfl rfl ?_
                refine s_if_eqN C 117 14 dX7_readsTitle_11 (by decide) rfl (by omega) (fun z11 => ?_) (fun z11 => ?_)
                · skip
                  refine s_aload_n C 118 dX7_readsTitle_117 rfl rfl ?_
                  refine s_aload_n C 119 dX7_readsTitle_118 rfl rfl ?_
                  refine s_getf C 122 dX7_readsTitle_119 rfl f_X7_123 hO rfl ?_
                  refine s_putU C 125 dX7_readsTitle_122 rfl p_X7_140 hO (by first | decide | omega) rfl rfl rfl (fs' := [.ref sa, .ref ha, .int (nI c), .ref xa, .int (nI tl), .ref ra, .ref la, .ref qa, .int (nI al), .ref ka, .int (nI rm), .ref pa, .int fs, .int fe, .ref za, .ref wa, .ref ua, .int (nI ((ap + cnt) + 0)), .int cm, .int (nI nu), .int (nI ap), .int (nI ((ap + cnt) + 0))]) rfl (fun M17 U18 => ?_)
                  have hX := U18.o hO hX (by first | decide | omega)
                  have hF := hF.put U18 hO (by first | decide | (simp; done) | (simp; omega) | (simp [*]; done))
                  have hO := U18.s
                  refine s_aload_n C 126 dX7_readsTitle_125 rfl rfl ?_
                  refine s_getf C 129 dX7_readsTitle_126 rfl f_X7_123 hO rfl ?_
                  refine s_aload_n C 130 dX7_readsTitle_129 rfl rfl ?_
                  refine s_getf C 133 dX7_readsTitle_130 rfl f_X7_134 hO rfl ?_
                  refine s_icmp_leN C 156 136 dX7_readsTitle_133 (by decide) rfl (by omega) (by omega) (fun z133 => ?_) (fun z133 => ?_)
                  · skip
                    refine s_iconst C 157 (nI 0) dX7_readsTitle_156 rfl (by decide) ?_
                    exact s_zret C dX7_readsTitle_157 Tr rfl (by decide) ⟨rF (by rw [hst]; show (!nd) = _; rw [hndv]; rfl), by rw [hst]; exact hO, hF⟩
                  · skip
                    omega
                · skip
                  omega
              · skip
                omega
            · skip
              refine s_iload C 81 dX7_readsTitle_79 rfl rfl ?_
              refine s_if_eqN C 94 84 dX7_readsTitle_81 (by decide) rfl (by omega) (fun z81 => ?_) (fun z81 => ?_)
              · skip
                have hst : ptF g tl 24 ap true = (ap + cnt, nd) := by rw [hpt, show 24 - cnt = 0 by omega]; rfl
                refine s_iconst C 95 (nI 0) dX7_readsTitle_94 rfl (by decide) ?_
                refine s_istore_n C 96 dX7_readsTitle_95 rfl rfl rfl ?_
                dsimp only [List.set]
                refine s_aload_n C 97 dX7_readsTitle_96 rfl rfl ?_
                refine s_dup C 98 dX7_readsTitle_97 rfl rfl ?_
                refine s_getf C 101 dX7_readsTitle_98 rfl f_X7_123 hO rfl ?_
                refine s_iload_n C 102 dX7_readsTitle_101 rfl rfl ?_
                refine s_if_eqN C 109 105 dX7_readsTitle_102 (by decide) rfl (by omega) (fun z102 => ?_) (fun z102 => ?_)
                · skip
                  refine s_iconst C 110 (nI 0) dX7_readsTitle_109 rfl (by decide) ?_
                  refine s_iaddN C 111 dX7_readsTitle_110 rfl ?_
                  refine s_putU C 114 dX7_readsTitle_111 rfl p_X7_123 hO (by first | decide | omega) rfl rfl rfl (fs' := [.ref sa, .ref ha, .int (nI c), .ref xa, .int (nI tl), .ref ra, .ref la, .ref qa, .int (nI al), .ref ka, .int (nI rm), .ref pa, .int fs, .int fe, .ref za, .ref wa, .ref ua, .int (nI ((ap + cnt) + 0)), .int cm, .int (nI nu), .int (nI ap), .int (nI en)]) rfl (fun M19 U20 => ?_)
                  have hX := U20.o hO hX (by first | decide | omega)
                  have hF := hF.put U20 hO (by first | decide | (simp; done) | (simp; omega) | (simp [*]; done))
                  have hO := U20.s
                  refine s_goto C 10 dX7_readsTitle_114 (by decide) ?_
                  refine s_iload_n C 11 dX7_readsTitle_10 rfl rfl ?_
                  refine s_if_eqN C 117 14 dX7_readsTitle_11 (by decide) rfl (by omega) (fun z11 => ?_) (fun z11 => ?_)
                  · skip
                    refine s_aload_n C 118 dX7_readsTitle_117 rfl rfl ?_
                    refine s_aload_n C 119 dX7_readsTitle_118 rfl rfl ?_
                    refine s_getf C 122 dX7_readsTitle_119 rfl f_X7_123 hO rfl ?_
                    refine s_putU C 125 dX7_readsTitle_122 rfl p_X7_140 hO (by first | decide | omega) rfl rfl rfl (fs' := [.ref sa, .ref ha, .int (nI c), .ref xa, .int (nI tl), .ref ra, .ref la, .ref qa, .int (nI al), .ref ka, .int (nI rm), .ref pa, .int fs, .int fe, .ref za, .ref wa, .ref ua, .int (nI ((ap + cnt) + 0)), .int cm, .int (nI nu), .int (nI ap), .int (nI ((ap + cnt) + 0))]) rfl (fun M21 U22 => ?_)
                    have hX := U22.o hO hX (by first | decide | omega)
                    have hF := hF.put U22 hO (by first | decide | (simp; done) | (simp; omega) | (simp [*]; done))
                    have hO := U22.s
                    refine s_aload_n C 126 dX7_readsTitle_125 rfl rfl ?_
                    refine s_getf C 129 dX7_readsTitle_126 rfl f_X7_123 hO rfl ?_
                    refine s_aload_n C 130 dX7_readsTitle_129 rfl rfl ?_
                    refine s_getf C 133 dX7_readsTitle_130 rfl f_X7_134 hO rfl ?_
                    refine s_icmp_leN C 156 136 dX7_readsTitle_133 (by decide) rfl (by omega) (by omega) (fun z133 => ?_) (fun z133 => ?_)
                    · skip
                      refine s_iconst C 157 (nI 0) dX7_readsTitle_156 rfl (by decide) ?_
                      exact s_zret C dX7_readsTitle_157 Tr rfl (by decide) ⟨rF (by rw [hst]; show (!nd) = _; rw [hndv]; rfl), by rw [hst]; exact hO, hF⟩
                    · skip
                      omega
                  · skip
                    omega
                · skip
                  omega
              · skip
                omega
      · skip
        refine s_aload_n C 38 dX7_readsTitle_37 rfl rfl ?_
        refine s_aload_n C 39 dX7_readsTitle_38 rfl rfl ?_
        refine s_getf C 42 dX7_readsTitle_39 rfl f_X7_123 hO rfl ?_
        refine s_iconst C 43 (nI 1) dX7_readsTitle_42 rfl (by decide) ?_
        refine s_isubN C 44 dX7_readsTitle_43 rfl (by omega) ?_
        refine s_invV C 47 0 0 [] (mRv_of hO rfl) dX7_readsTitle_44 rfl m_X7_126 (n_typedAt hO hX hXg htl (p := ((ap + cnt) - 1)) (by omega)) rfl rfl rfl ⟨by decide, by decide⟩ (Nat.le_of_ble_eq_true rfl) (by omega) (by omega) ?_
        rintro _ M23 ⟨rfl, rfl⟩
        dsimp only [Option.toList, List.cons_append, List.nil_append]
        refine s_invS C 50 0 0 [] dX7_readsTitle_47 rfl m_X7_137 (n_isLetter) rfl rfl rfl ⟨by decide, by decide⟩ (Nat.le_of_ble_eq_true rfl) (by omega) (by omega) ?_
        rintro _ M24 ⟨rfl, rfl⟩
        dsimp only [Option.toList, List.cons_append, List.nil_append]
        refine s_if_eqB C 57 53 dX7_readsTitle_50 (by decide) rfl (fun z50 => ?_) (fun z50 => ?_)
        · skip
          have hndv : nd = true := by rw [hnd, z50, Bool.and_false]; rfl
          refine s_iconst C 58 (nI 0) dX7_readsTitle_57 rfl (by decide) ?_
          refine s_istore C 60 dX7_readsTitle_58 rfl rfl rfl ?_
          dsimp only [List.set]
          refine s_iload_n C 61 dX7_readsTitle_60 rfl rfl ?_
          refine s_invS C 64 0 0 [] dX7_readsTitle_61 rfl m_X7_137 (n_isLetter) rfl rfl rfl ⟨by decide, by decide⟩ (Nat.le_of_ble_eq_true rfl) (by omega) (by omega) ?_
          rintro _ M25 ⟨rfl, rfl⟩
          dsimp only [Option.toList, List.cons_append, List.nil_append]
          refine s_if_eqB C 73 67 dX7_readsTitle_64 (by decide) rfl (fun z64 => ?_) (fun z64 => ?_)
          · skip
            refine s_iload_n C 74 dX7_readsTitle_73 rfl rfl ?_
            refine s_bipush C 76 (nI 32) dX7_readsTitle_74 rfl (by decide) ?_
            refine s_icmp_ne C 94 79 dX7_readsTitle_76 (by decide) rfl (fun z76 => ?_) (fun z76 => ?_)
            · skip
              have hst : ptF g tl 24 ap true = (ap + cnt, nd) := by rw [hpt]; exact ptF_s (Or.inr ⟨z64, Or.inl z76⟩)
              refine s_iconst C 95 (nI 0) dX7_readsTitle_94 rfl (by decide) ?_
              refine s_istore_n C 96 dX7_readsTitle_95 rfl rfl rfl ?_
              dsimp only [List.set]
              refine s_aload_n C 97 dX7_readsTitle_96 rfl rfl ?_
              refine s_dup C 98 dX7_readsTitle_97 rfl rfl ?_
              refine s_getf C 101 dX7_readsTitle_98 rfl f_X7_123 hO rfl ?_
              refine s_iload_n C 102 dX7_readsTitle_101 rfl rfl ?_
              refine s_if_eqN C 109 105 dX7_readsTitle_102 (by decide) rfl (by omega) (fun z102 => ?_) (fun z102 => ?_)
              · skip
                refine s_iconst C 110 (nI 0) dX7_readsTitle_109 rfl (by decide) ?_
                refine s_iaddN C 111 dX7_readsTitle_110 rfl ?_
                refine s_putU C 114 dX7_readsTitle_111 rfl p_X7_123 hO (by first | decide | omega) rfl rfl rfl (fs' := [.ref sa, .ref ha, .int (nI c), .ref xa, .int (nI tl), .ref ra, .ref la, .ref qa, .int (nI al), .ref ka, .int (nI rm), .ref pa, .int fs, .int fe, .ref za, .ref wa, .ref ua, .int (nI ((ap + cnt) + 0)), .int cm, .int (nI nu), .int (nI ap), .int (nI en)]) rfl (fun M26 U27 => ?_)
                have hX := U27.o hO hX (by first | decide | omega)
                have hF := hF.put U27 hO (by first | decide | (simp; done) | (simp; omega) | (simp [*]; done))
                have hO := U27.s
                refine s_goto C 10 dX7_readsTitle_114 (by decide) ?_
                refine s_iload_n C 11 dX7_readsTitle_10 rfl rfl ?_
                refine s_if_eqN C 117 14 dX7_readsTitle_11 (by decide) rfl (by omega) (fun z11 => ?_) (fun z11 => ?_)
                · skip
                  refine s_aload_n C 118 dX7_readsTitle_117 rfl rfl ?_
                  refine s_aload_n C 119 dX7_readsTitle_118 rfl rfl ?_
                  refine s_getf C 122 dX7_readsTitle_119 rfl f_X7_123 hO rfl ?_
                  refine s_putU C 125 dX7_readsTitle_122 rfl p_X7_140 hO (by first | decide | omega) rfl rfl rfl (fs' := [.ref sa, .ref ha, .int (nI c), .ref xa, .int (nI tl), .ref ra, .ref la, .ref qa, .int (nI al), .ref ka, .int (nI rm), .ref pa, .int fs, .int fe, .ref za, .ref wa, .ref ua, .int (nI ((ap + cnt) + 0)), .int cm, .int (nI nu), .int (nI ap), .int (nI ((ap + cnt) + 0))]) rfl (fun M28 U29 => ?_)
                  have hX := U29.o hO hX (by first | decide | omega)
                  have hF := hF.put U29 hO (by first | decide | (simp; done) | (simp; omega) | (simp [*]; done))
                  have hO := U29.s
                  refine s_aload_n C 126 dX7_readsTitle_125 rfl rfl ?_
                  refine s_getf C 129 dX7_readsTitle_126 rfl f_X7_123 hO rfl ?_
                  refine s_aload_n C 130 dX7_readsTitle_129 rfl rfl ?_
                  refine s_getf C 133 dX7_readsTitle_130 rfl f_X7_134 hO rfl ?_
                  refine s_icmp_leN C 156 136 dX7_readsTitle_133 (by decide) rfl (by omega) (by omega) (fun z133 => ?_) (fun z133 => ?_)
                  · skip
                    omega
                  · skip
                    refine s_aload_n C 137 dX7_readsTitle_136 rfl rfl ?_
                    refine s_aload_n C 138 dX7_readsTitle_137 rfl rfl ?_
                    refine s_getf C 141 dX7_readsTitle_138 rfl f_X7_123 hO rfl ?_
                    refine s_iconst C 142 (nI 1) dX7_readsTitle_141 rfl (by decide) ?_
                    refine s_isubN C 143 dX7_readsTitle_142 rfl (by omega) ?_
                    refine s_invV C 146 0 0 [] (mRv_of hO rfl) dX7_readsTitle_143 rfl m_X7_126 (n_typedAt hO hX hXg htl (p := (((ap + cnt) + 0) - 1)) (by omega)) rfl rfl rfl ⟨by decide, by decide⟩ (Nat.le_of_ble_eq_true rfl) (by omega) (by omega) ?_
                    rintro _ M30 ⟨rfl, rfl⟩
                    dsimp only [Option.toList, List.cons_append, List.nil_append]
                    refine s_invS C 149 0 0 [] dX7_readsTitle_146 rfl m_X7_137 (n_isLetter) rfl rfl rfl ⟨by decide, by decide⟩ (Nat.le_of_ble_eq_true rfl) (by omega) (by omega) ?_
                    rintro _ M31 ⟨rfl, rfl⟩
                    dsimp only [Option.toList, List.cons_append, List.nil_append]
                    refine s_if_eqB C 156 152 dX7_readsTitle_149 (by decide) rfl (fun z149 => ?_) (fun z149 => ?_)
                    · skip
                      refine s_iconst C 157 (nI 0) dX7_readsTitle_156 rfl (by decide) ?_
                      exact s_zret C dX7_readsTitle_157 Tr rfl (by decide) ⟨rF (by rw [hst]; show (!nd) = _; rw [hndv]; rfl), by rw [hst]; exact hO, hF⟩
                    · skip
                      rw [show isL (tyA g tl (ap + cnt + 0 - 1)) = false from z50] at z149; cases z149
                · skip
                  omega
              · skip
                omega
            · skip
              refine s_iload C 81 dX7_readsTitle_79 rfl rfl ?_
              refine s_if_eqN C 94 84 dX7_readsTitle_81 (by decide) rfl (by omega) (fun z81 => ?_) (fun z81 => ?_)
              · skip
                have hst : ptF g tl 24 ap true = (ap + cnt, nd) := by rw [hpt]; exact ptF_s (Or.inr ⟨z64, Or.inr (Or.inl hndv)⟩)
                refine s_iconst C 95 (nI 0) dX7_readsTitle_94 rfl (by decide) ?_
                refine s_istore_n C 96 dX7_readsTitle_95 rfl rfl rfl ?_
                dsimp only [List.set]
                refine s_aload_n C 97 dX7_readsTitle_96 rfl rfl ?_
                refine s_dup C 98 dX7_readsTitle_97 rfl rfl ?_
                refine s_getf C 101 dX7_readsTitle_98 rfl f_X7_123 hO rfl ?_
                refine s_iload_n C 102 dX7_readsTitle_101 rfl rfl ?_
                refine s_if_eqN C 109 105 dX7_readsTitle_102 (by decide) rfl (by omega) (fun z102 => ?_) (fun z102 => ?_)
                · skip
                  refine s_iconst C 110 (nI 0) dX7_readsTitle_109 rfl (by decide) ?_
                  refine s_iaddN C 111 dX7_readsTitle_110 rfl ?_
                  refine s_putU C 114 dX7_readsTitle_111 rfl p_X7_123 hO (by first | decide | omega) rfl rfl rfl (fs' := [.ref sa, .ref ha, .int (nI c), .ref xa, .int (nI tl), .ref ra, .ref la, .ref qa, .int (nI al), .ref ka, .int (nI rm), .ref pa, .int fs, .int fe, .ref za, .ref wa, .ref ua, .int (nI ((ap + cnt) + 0)), .int cm, .int (nI nu), .int (nI ap), .int (nI en)]) rfl (fun M32 U33 => ?_)
                  have hX := U33.o hO hX (by first | decide | omega)
                  have hF := hF.put U33 hO (by first | decide | (simp; done) | (simp; omega) | (simp [*]; done))
                  have hO := U33.s
                  refine s_goto C 10 dX7_readsTitle_114 (by decide) ?_
                  refine s_iload_n C 11 dX7_readsTitle_10 rfl rfl ?_
                  refine s_if_eqN C 117 14 dX7_readsTitle_11 (by decide) rfl (by omega) (fun z11 => ?_) (fun z11 => ?_)
                  · skip
                    refine s_aload_n C 118 dX7_readsTitle_117 rfl rfl ?_
                    refine s_aload_n C 119 dX7_readsTitle_118 rfl rfl ?_
                    refine s_getf C 122 dX7_readsTitle_119 rfl f_X7_123 hO rfl ?_
                    refine s_putU C 125 dX7_readsTitle_122 rfl p_X7_140 hO (by first | decide | omega) rfl rfl rfl (fs' := [.ref sa, .ref ha, .int (nI c), .ref xa, .int (nI tl), .ref ra, .ref la, .ref qa, .int (nI al), .ref ka, .int (nI rm), .ref pa, .int fs, .int fe, .ref za, .ref wa, .ref ua, .int (nI ((ap + cnt) + 0)), .int cm, .int (nI nu), .int (nI ap), .int (nI ((ap + cnt) + 0))]) rfl (fun M34 U35 => ?_)
                    have hX := U35.o hO hX (by first | decide | omega)
                    have hF := hF.put U35 hO (by first | decide | (simp; done) | (simp; omega) | (simp [*]; done))
                    have hO := U35.s
                    refine s_aload_n C 126 dX7_readsTitle_125 rfl rfl ?_
                    refine s_getf C 129 dX7_readsTitle_126 rfl f_X7_123 hO rfl ?_
                    refine s_aload_n C 130 dX7_readsTitle_129 rfl rfl ?_
                    refine s_getf C 133 dX7_readsTitle_130 rfl f_X7_134 hO rfl ?_
                    refine s_icmp_leN C 156 136 dX7_readsTitle_133 (by decide) rfl (by omega) (by omega) (fun z133 => ?_) (fun z133 => ?_)
                    · skip
                      omega
                    · skip
                      refine s_aload_n C 137 dX7_readsTitle_136 rfl rfl ?_
                      refine s_aload_n C 138 dX7_readsTitle_137 rfl rfl ?_
                      refine s_getf C 141 dX7_readsTitle_138 rfl f_X7_123 hO rfl ?_
                      refine s_iconst C 142 (nI 1) dX7_readsTitle_141 rfl (by decide) ?_
                      refine s_isubN C 143 dX7_readsTitle_142 rfl (by omega) ?_
                      refine s_invV C 146 0 0 [] (mRv_of hO rfl) dX7_readsTitle_143 rfl m_X7_126 (n_typedAt hO hX hXg htl (p := (((ap + cnt) + 0) - 1)) (by omega)) rfl rfl rfl ⟨by decide, by decide⟩ (Nat.le_of_ble_eq_true rfl) (by omega) (by omega) ?_
                      rintro _ M36 ⟨rfl, rfl⟩
                      dsimp only [Option.toList, List.cons_append, List.nil_append]
                      refine s_invS C 149 0 0 [] dX7_readsTitle_146 rfl m_X7_137 (n_isLetter) rfl rfl rfl ⟨by decide, by decide⟩ (Nat.le_of_ble_eq_true rfl) (by omega) (by omega) ?_
                      rintro _ M37 ⟨rfl, rfl⟩
                      dsimp only [Option.toList, List.cons_append, List.nil_append]
                      refine s_if_eqB C 156 152 dX7_readsTitle_149 (by decide) rfl (fun z149 => ?_) (fun z149 => ?_)
                      · skip
                        refine s_iconst C 157 (nI 0) dX7_readsTitle_156 rfl (by decide) ?_
                        exact s_zret C dX7_readsTitle_157 Tr rfl (by decide) ⟨rF (by rw [hst]; show (!nd) = _; rw [hndv]; rfl), by rw [hst]; exact hO, hF⟩
                      · skip
                        rw [show isL (tyA g tl (ap + cnt + 0 - 1)) = false from z50] at z149; cases z149
                  · skip
                    omega
                · skip
                  omega
              · skip
                omega
          · skip
            refine s_iload_n C 68 dX7_readsTitle_67 rfl rfl ?_
            refine s_bipush C 70 (nI 24) dX7_readsTitle_68 rfl (by decide) ?_
            refine s_icmp_ltN C 90 73 dX7_readsTitle_70 (by decide) rfl (by omega) (by omega) (fun z70 => ?_) (fun z70 => ?_)
            · skip
              have hst : ptF g tl 24 ap true = ptF g tl (24 - (cnt + 1)) (ap + (cnt + 1)) false := by rw [hpt, show 24 - cnt = (24 - (cnt + 1)) + 1 by omega]; exact ptF_l z64
              have hnd2 : false = !(decide (0 < cnt + 1) && isL (tyA g tl (ap + (cnt + 1) - 1))) := by rw [show ap + (cnt + 1) - 1 = ap + cnt by omega, z64, decide_eq_true (by omega)]; rfl
              refine s_iconst C 91 (nI 1) dX7_readsTitle_90 rfl (by decide) ?_
              refine s_goto C 95 dX7_readsTitle_91 (by decide) ?_
              refine s_istore_n C 96 dX7_readsTitle_95 rfl rfl rfl ?_
              dsimp only [List.set]
              refine s_aload_n C 97 dX7_readsTitle_96 rfl rfl ?_
              refine s_dup C 98 dX7_readsTitle_97 rfl rfl ?_
              refine s_getf C 101 dX7_readsTitle_98 rfl f_X7_123 hO rfl ?_
              refine s_iload_n C 102 dX7_readsTitle_101 rfl rfl ?_
              refine s_if_eqN C 109 105 dX7_readsTitle_102 (by decide) rfl (by omega) (fun z102 => ?_) (fun z102 => ?_)
              · skip
                omega
              · skip
                refine s_iconst C 106 (nI 1) dX7_readsTitle_105 rfl (by decide) ?_
                refine s_goto C 110 dX7_readsTitle_106 (by decide) ?_
                refine s_iaddN C 111 dX7_readsTitle_110 rfl ?_
                refine s_putU C 114 dX7_readsTitle_111 rfl p_X7_123 hO (by first | decide | omega) rfl rfl rfl (fs' := [.ref sa, .ref ha, .int (nI c), .ref xa, .int (nI tl), .ref ra, .ref la, .ref qa, .int (nI al), .ref ka, .int (nI rm), .ref pa, .int fs, .int fe, .ref za, .ref wa, .ref ua, .int (nI ((ap + cnt) + 1)), .int cm, .int (nI nu), .int (nI ap), .int (nI en)]) rfl (fun M38 U39 => ?_)
                have hX := U39.o hO hX (by first | decide | omega)
                have hF := hF.put U39 hO (by first | decide | (simp; done) | (simp; omega) | (simp [*]; done))
                have hO := U39.s
                refine s_goto C 10 dX7_readsTitle_114 (by decide) ?_
                refine V.drop 2 ?_
                dsimp only [List.set]
                refine V.drop 3 ?_
                dsimp only [List.set]
                refine V.drop 4 ?_
                dsimp only [List.set]
                exact ih10 (cnt + 1) false _ (by omega) (by omega) hst hnd2 hO hX hF
            · skip
              refine s_iload_n C 74 dX7_readsTitle_73 rfl rfl ?_
              refine s_bipush C 76 (nI 32) dX7_readsTitle_74 rfl (by decide) ?_
              refine s_icmp_ne C 94 79 dX7_readsTitle_76 (by decide) rfl (fun z76 => ?_) (fun z76 => ?_)
              · skip
                have hst : ptF g tl 24 ap true = (ap + cnt, nd) := by rw [hpt, show 24 - cnt = 0 by omega]; rfl
                refine s_iconst C 95 (nI 0) dX7_readsTitle_94 rfl (by decide) ?_
                refine s_istore_n C 96 dX7_readsTitle_95 rfl rfl rfl ?_
                dsimp only [List.set]
                refine s_aload_n C 97 dX7_readsTitle_96 rfl rfl ?_
                refine s_dup C 98 dX7_readsTitle_97 rfl rfl ?_
                refine s_getf C 101 dX7_readsTitle_98 rfl f_X7_123 hO rfl ?_
                refine s_iload_n C 102 dX7_readsTitle_101 rfl rfl ?_
                refine s_if_eqN C 109 105 dX7_readsTitle_102 (by decide) rfl (by omega) (fun z102 => ?_) (fun z102 => ?_)
                · skip
                  refine s_iconst C 110 (nI 0) dX7_readsTitle_109 rfl (by decide) ?_
                  refine s_iaddN C 111 dX7_readsTitle_110 rfl ?_
                  refine s_putU C 114 dX7_readsTitle_111 rfl p_X7_123 hO (by first | decide | omega) rfl rfl rfl (fs' := [.ref sa, .ref ha, .int (nI c), .ref xa, .int (nI tl), .ref ra, .ref la, .ref qa, .int (nI al), .ref ka, .int (nI rm), .ref pa, .int fs, .int fe, .ref za, .ref wa, .ref ua, .int (nI ((ap + cnt) + 0)), .int cm, .int (nI nu), .int (nI ap), .int (nI en)]) rfl (fun M40 U41 => ?_)
                  have hX := U41.o hO hX (by first | decide | omega)
                  have hF := hF.put U41 hO (by first | decide | (simp; done) | (simp; omega) | (simp [*]; done))
                  have hO := U41.s
                  refine s_goto C 10 dX7_readsTitle_114 (by decide) ?_
                  refine s_iload_n C 11 dX7_readsTitle_10 rfl rfl ?_
                  refine s_if_eqN C 117 14 dX7_readsTitle_11 (by decide) rfl (by omega) (fun z11 => ?_) (fun z11 => ?_)
                  · skip
                    refine s_aload_n C 118 dX7_readsTitle_117 rfl rfl ?_
                    refine s_aload_n C 119 dX7_readsTitle_118 rfl rfl ?_
                    refine s_getf C 122 dX7_readsTitle_119 rfl f_X7_123 hO rfl ?_
                    refine s_putU C 125 dX7_readsTitle_122 rfl p_X7_140 hO (by first | decide | omega) rfl rfl rfl (fs' := [.ref sa, .ref ha, .int (nI c), .ref xa, .int (nI tl), .ref ra, .ref la, .ref qa, .int (nI al), .ref ka, .int (nI rm), .ref pa, .int fs, .int fe, .ref za, .ref wa, .ref ua, .int (nI ((ap + cnt) + 0)), .int cm, .int (nI nu), .int (nI ap), .int (nI ((ap + cnt) + 0))]) rfl (fun M42 U43 => ?_)
                    have hX := U43.o hO hX (by first | decide | omega)
                    have hF := hF.put U43 hO (by first | decide | (simp; done) | (simp; omega) | (simp [*]; done))
                    have hO := U43.s
                    refine s_aload_n C 126 dX7_readsTitle_125 rfl rfl ?_
                    refine s_getf C 129 dX7_readsTitle_126 rfl f_X7_123 hO rfl ?_
                    refine s_aload_n C 130 dX7_readsTitle_129 rfl rfl ?_
                    refine s_getf C 133 dX7_readsTitle_130 rfl f_X7_134 hO rfl ?_
                    refine s_icmp_leN C 156 136 dX7_readsTitle_133 (by decide) rfl (by omega) (by omega) (fun z133 => ?_) (fun z133 => ?_)
                    · skip
                      omega
                    · skip
                      refine s_aload_n C 137 dX7_readsTitle_136 rfl rfl ?_
                      refine s_aload_n C 138 dX7_readsTitle_137 rfl rfl ?_
                      refine s_getf C 141 dX7_readsTitle_138 rfl f_X7_123 hO rfl ?_
                      refine s_iconst C 142 (nI 1) dX7_readsTitle_141 rfl (by decide) ?_
                      refine s_isubN C 143 dX7_readsTitle_142 rfl (by omega) ?_
                      refine s_invV C 146 0 0 [] (mRv_of hO rfl) dX7_readsTitle_143 rfl m_X7_126 (n_typedAt hO hX hXg htl (p := (((ap + cnt) + 0) - 1)) (by omega)) rfl rfl rfl ⟨by decide, by decide⟩ (Nat.le_of_ble_eq_true rfl) (by omega) (by omega) ?_
                      rintro _ M44 ⟨rfl, rfl⟩
                      dsimp only [Option.toList, List.cons_append, List.nil_append]
                      refine s_invS C 149 0 0 [] dX7_readsTitle_146 rfl m_X7_137 (n_isLetter) rfl rfl rfl ⟨by decide, by decide⟩ (Nat.le_of_ble_eq_true rfl) (by omega) (by omega) ?_
                      rintro _ M45 ⟨rfl, rfl⟩
                      dsimp only [Option.toList, List.cons_append, List.nil_append]
                      refine s_if_eqB C 156 152 dX7_readsTitle_149 (by decide) rfl (fun z149 => ?_) (fun z149 => ?_)
                      · skip
                        refine s_iconst C 157 (nI 0) dX7_readsTitle_156 rfl (by decide) ?_
                        exact s_zret C dX7_readsTitle_157 Tr rfl (by decide) ⟨rF (by rw [hst]; show (!nd) = _; rw [hndv]; rfl), by rw [hst]; exact hO, hF⟩
                      · skip
                        rw [show isL (tyA g tl (ap + cnt + 0 - 1)) = false from z50] at z149; cases z149
                  · skip
                    omega
                · skip
                  omega
              · skip
                refine s_iload C 81 dX7_readsTitle_79 rfl rfl ?_
                refine s_if_eqN C 94 84 dX7_readsTitle_81 (by decide) rfl (by omega) (fun z81 => ?_) (fun z81 => ?_)
                · skip
                  have hst : ptF g tl 24 ap true = (ap + cnt, nd) := by rw [hpt, show 24 - cnt = 0 by omega]; rfl
                  refine s_iconst C 95 (nI 0) dX7_readsTitle_94 rfl (by decide) ?_
                  refine s_istore_n C 96 dX7_readsTitle_95 rfl rfl rfl ?_
                  dsimp only [List.set]
                  refine s_aload_n C 97 dX7_readsTitle_96 rfl rfl ?_
                  refine s_dup C 98 dX7_readsTitle_97 rfl rfl ?_
                  refine s_getf C 101 dX7_readsTitle_98 rfl f_X7_123 hO rfl ?_
                  refine s_iload_n C 102 dX7_readsTitle_101 rfl rfl ?_
                  refine s_if_eqN C 109 105 dX7_readsTitle_102 (by decide) rfl (by omega) (fun z102 => ?_) (fun z102 => ?_)
                  · skip
                    refine s_iconst C 110 (nI 0) dX7_readsTitle_109 rfl (by decide) ?_
                    refine s_iaddN C 111 dX7_readsTitle_110 rfl ?_
                    refine s_putU C 114 dX7_readsTitle_111 rfl p_X7_123 hO (by first | decide | omega) rfl rfl rfl (fs' := [.ref sa, .ref ha, .int (nI c), .ref xa, .int (nI tl), .ref ra, .ref la, .ref qa, .int (nI al), .ref ka, .int (nI rm), .ref pa, .int fs, .int fe, .ref za, .ref wa, .ref ua, .int (nI ((ap + cnt) + 0)), .int cm, .int (nI nu), .int (nI ap), .int (nI en)]) rfl (fun M46 U47 => ?_)
                    have hX := U47.o hO hX (by first | decide | omega)
                    have hF := hF.put U47 hO (by first | decide | (simp; done) | (simp; omega) | (simp [*]; done))
                    have hO := U47.s
                    refine s_goto C 10 dX7_readsTitle_114 (by decide) ?_
                    refine s_iload_n C 11 dX7_readsTitle_10 rfl rfl ?_
                    refine s_if_eqN C 117 14 dX7_readsTitle_11 (by decide) rfl (by omega) (fun z11 => ?_) (fun z11 => ?_)
                    · skip
                      refine s_aload_n C 118 dX7_readsTitle_117 rfl rfl ?_
                      refine s_aload_n C 119 dX7_readsTitle_118 rfl rfl ?_
                      refine s_getf C 122 dX7_readsTitle_119 rfl f_X7_123 hO rfl ?_
                      refine s_putU C 125 dX7_readsTitle_122 rfl p_X7_140 hO (by first | decide | omega) rfl rfl rfl (fs' := [.ref sa, .ref ha, .int (nI c), .ref xa, .int (nI tl), .ref ra, .ref la, .ref qa, .int (nI al), .ref ka, .int (nI rm), .ref pa, .int fs, .int fe, .ref za, .ref wa, .ref ua, .int (nI ((ap + cnt) + 0)), .int cm, .int (nI nu), .int (nI ap), .int (nI ((ap + cnt) + 0))]) rfl (fun M48 U49 => ?_)
                      have hX := U49.o hO hX (by first | decide | omega)
                      have hF := hF.put U49 hO (by first | decide | (simp; done) | (simp; omega) | (simp [*]; done))
                      have hO := U49.s
                      refine s_aload_n C 126 dX7_readsTitle_125 rfl rfl ?_
                      refine s_getf C 129 dX7_readsTitle_126 rfl f_X7_123 hO rfl ?_
                      refine s_aload_n C 130 dX7_readsTitle_129 rfl rfl ?_
                      refine s_getf C 133 dX7_readsTitle_130 rfl f_X7_134 hO rfl ?_
                      refine s_icmp_leN C 156 136 dX7_readsTitle_133 (by decide) rfl (by omega) (by omega) (fun z133 => ?_) (fun z133 => ?_)
                      · skip
                        omega
                      · skip
                        refine s_aload_n C 137 dX7_readsTitle_136 rfl rfl ?_
                        refine s_aload_n C 138 dX7_readsTitle_137 rfl rfl ?_
                        refine s_getf C 141 dX7_readsTitle_138 rfl f_X7_123 hO rfl ?_
                        refine s_iconst C 142 (nI 1) dX7_readsTitle_141 rfl (by decide) ?_
                        refine s_isubN C 143 dX7_readsTitle_142 rfl (by omega) ?_
                        refine s_invV C 146 0 0 [] (mRv_of hO rfl) dX7_readsTitle_143 rfl m_X7_126 (n_typedAt hO hX hXg htl (p := (((ap + cnt) + 0) - 1)) (by omega)) rfl rfl rfl ⟨by decide, by decide⟩ (Nat.le_of_ble_eq_true rfl) (by omega) (by omega) ?_
                        rintro _ M50 ⟨rfl, rfl⟩
                        dsimp only [Option.toList, List.cons_append, List.nil_append]
                        refine s_invS C 149 0 0 [] dX7_readsTitle_146 rfl m_X7_137 (n_isLetter) rfl rfl rfl ⟨by decide, by decide⟩ (Nat.le_of_ble_eq_true rfl) (by omega) (by omega) ?_
                        rintro _ M51 ⟨rfl, rfl⟩
                        dsimp only [Option.toList, List.cons_append, List.nil_append]
                        refine s_if_eqB C 156 152 dX7_readsTitle_149 (by decide) rfl (fun z149 => ?_) (fun z149 => ?_)
                        · skip
                          refine s_iconst C 157 (nI 0) dX7_readsTitle_156 rfl (by decide) ?_
                          exact s_zret C dX7_readsTitle_157 Tr rfl (by decide) ⟨rF (by rw [hst]; show (!nd) = _; rw [hndv]; rfl), by rw [hst]; exact hO, hF⟩
                        · skip
                          rw [show isL (tyA g tl (ap + cnt + 0 - 1)) = false from z50] at z149; cases z149
                    · skip
                      omega
                  · skip
                    omega
                · skip
                  omega
        · skip
          have hndv : nd = false := by rw [hnd, z50, decide_eq_true z34]; rfl
          refine s_iconst C 54 (nI 1) dX7_readsTitle_53 rfl (by decide) ?_
          refine s_goto C 58 dX7_readsTitle_54 (by decide) ?_
          refine s_istore C 60 dX7_readsTitle_58 rfl rfl rfl ?_
          dsimp only [List.set]
          refine s_iload_n C 61 dX7_readsTitle_60 rfl rfl ?_
          refine s_invS C 64 0 0 [] dX7_readsTitle_61 rfl m_X7_137 (n_isLetter) rfl rfl rfl ⟨by decide, by decide⟩ (Nat.le_of_ble_eq_true rfl) (by omega) (by omega) ?_
          rintro _ M52 ⟨rfl, rfl⟩
          dsimp only [Option.toList, List.cons_append, List.nil_append]
          refine s_if_eqB C 73 67 dX7_readsTitle_64 (by decide) rfl (fun z64 => ?_) (fun z64 => ?_)
          · skip
            refine s_iload_n C 74 dX7_readsTitle_73 rfl rfl ?_
            refine s_bipush C 76 (nI 32) dX7_readsTitle_74 rfl (by decide) ?_
            refine s_icmp_ne C 94 79 dX7_readsTitle_76 (by decide) rfl (fun z76 => ?_) (fun z76 => ?_)
            · skip
              have hst : ptF g tl 24 ap true = (ap + cnt, nd) := by rw [hpt]; exact ptF_s (Or.inr ⟨z64, Or.inl z76⟩)
              refine s_iconst C 95 (nI 0) dX7_readsTitle_94 rfl (by decide) ?_
              refine s_istore_n C 96 dX7_readsTitle_95 rfl rfl rfl ?_
              dsimp only [List.set]
              refine s_aload_n C 97 dX7_readsTitle_96 rfl rfl ?_
              refine s_dup C 98 dX7_readsTitle_97 rfl rfl ?_
              refine s_getf C 101 dX7_readsTitle_98 rfl f_X7_123 hO rfl ?_
              refine s_iload_n C 102 dX7_readsTitle_101 rfl rfl ?_
              refine s_if_eqN C 109 105 dX7_readsTitle_102 (by decide) rfl (by omega) (fun z102 => ?_) (fun z102 => ?_)
              · skip
                refine s_iconst C 110 (nI 0) dX7_readsTitle_109 rfl (by decide) ?_
                refine s_iaddN C 111 dX7_readsTitle_110 rfl ?_
                refine s_putU C 114 dX7_readsTitle_111 rfl p_X7_123 hO (by first | decide | omega) rfl rfl rfl (fs' := [.ref sa, .ref ha, .int (nI c), .ref xa, .int (nI tl), .ref ra, .ref la, .ref qa, .int (nI al), .ref ka, .int (nI rm), .ref pa, .int fs, .int fe, .ref za, .ref wa, .ref ua, .int (nI ((ap + cnt) + 0)), .int cm, .int (nI nu), .int (nI ap), .int (nI en)]) rfl (fun M53 U54 => ?_)
                have hX := U54.o hO hX (by first | decide | omega)
                have hF := hF.put U54 hO (by first | decide | (simp; done) | (simp; omega) | (simp [*]; done))
                have hO := U54.s
                refine s_goto C 10 dX7_readsTitle_114 (by decide) ?_
                refine s_iload_n C 11 dX7_readsTitle_10 rfl rfl ?_
                refine s_if_eqN C 117 14 dX7_readsTitle_11 (by decide) rfl (by omega) (fun z11 => ?_) (fun z11 => ?_)
                · skip
                  refine s_aload_n C 118 dX7_readsTitle_117 rfl rfl ?_
                  refine s_aload_n C 119 dX7_readsTitle_118 rfl rfl ?_
                  refine s_getf C 122 dX7_readsTitle_119 rfl f_X7_123 hO rfl ?_
                  refine s_putU C 125 dX7_readsTitle_122 rfl p_X7_140 hO (by first | decide | omega) rfl rfl rfl (fs' := [.ref sa, .ref ha, .int (nI c), .ref xa, .int (nI tl), .ref ra, .ref la, .ref qa, .int (nI al), .ref ka, .int (nI rm), .ref pa, .int fs, .int fe, .ref za, .ref wa, .ref ua, .int (nI ((ap + cnt) + 0)), .int cm, .int (nI nu), .int (nI ap), .int (nI ((ap + cnt) + 0))]) rfl (fun M55 U56 => ?_)
                  have hX := U56.o hO hX (by first | decide | omega)
                  have hF := hF.put U56 hO (by first | decide | (simp; done) | (simp; omega) | (simp [*]; done))
                  have hO := U56.s
                  refine s_aload_n C 126 dX7_readsTitle_125 rfl rfl ?_
                  refine s_getf C 129 dX7_readsTitle_126 rfl f_X7_123 hO rfl ?_
                  refine s_aload_n C 130 dX7_readsTitle_129 rfl rfl ?_
                  refine s_getf C 133 dX7_readsTitle_130 rfl f_X7_134 hO rfl ?_
                  refine s_icmp_leN C 156 136 dX7_readsTitle_133 (by decide) rfl (by omega) (by omega) (fun z133 => ?_) (fun z133 => ?_)
                  · skip
                    omega
                  · skip
                    refine s_aload_n C 137 dX7_readsTitle_136 rfl rfl ?_
                    refine s_aload_n C 138 dX7_readsTitle_137 rfl rfl ?_
                    refine s_getf C 141 dX7_readsTitle_138 rfl f_X7_123 hO rfl ?_
                    refine s_iconst C 142 (nI 1) dX7_readsTitle_141 rfl (by decide) ?_
                    refine s_isubN C 143 dX7_readsTitle_142 rfl (by omega) ?_
                    refine s_invV C 146 0 0 [] (mRv_of hO rfl) dX7_readsTitle_143 rfl m_X7_126 (n_typedAt hO hX hXg htl (p := (((ap + cnt) + 0) - 1)) (by omega)) rfl rfl rfl ⟨by decide, by decide⟩ (Nat.le_of_ble_eq_true rfl) (by omega) (by omega) ?_
                    rintro _ M57 ⟨rfl, rfl⟩
                    dsimp only [Option.toList, List.cons_append, List.nil_append]
                    refine s_invS C 149 0 0 [] dX7_readsTitle_146 rfl m_X7_137 (n_isLetter) rfl rfl rfl ⟨by decide, by decide⟩ (Nat.le_of_ble_eq_true rfl) (by omega) (by omega) ?_
                    rintro _ M58 ⟨rfl, rfl⟩
                    dsimp only [Option.toList, List.cons_append, List.nil_append]
                    refine s_if_eqB C 156 152 dX7_readsTitle_149 (by decide) rfl (fun z149 => ?_) (fun z149 => ?_)
                    · skip
                      rw [show isL (tyA g tl (ap + cnt + 0 - 1)) = true from z50] at z149; cases z149
                    · skip
                      refine s_iconst C 153 (nI 1) dX7_readsTitle_152 rfl (by decide) ?_
                      refine s_goto C 157 dX7_readsTitle_153 (by decide) ?_
                      exact s_zret C dX7_readsTitle_157 Tr rfl (by decide) ⟨rT (by rw [hst]; show (!nd) = _; rw [hndv]; rfl), by rw [hst]; exact hO, hF⟩
                · skip
                  omega
              · skip
                omega
            · skip
              refine s_iload C 81 dX7_readsTitle_79 rfl rfl ?_
              refine s_if_eqN C 94 84 dX7_readsTitle_81 (by decide) rfl (by omega) (fun z81 => ?_) (fun z81 => ?_)
              · skip
                omega
              · skip
                refine s_iload_n C 85 dX7_readsTitle_84 rfl rfl ?_
                refine s_bipush C 87 (nI 23) dX7_readsTitle_85 rfl (by decide) ?_
                refine s_icmp_geN C 94 90 dX7_readsTitle_87 (by decide) rfl (by omega) (by omega) (fun z87 => ?_) (fun z87 => ?_)
                · skip
                  have hst : ptF g tl 24 ap true = (ap + cnt, nd) := by rw [hpt]; exact ptF_s (Or.inr ⟨z64, Or.inr (Or.inr (by omega))⟩)
                  refine s_iconst C 95 (nI 0) dX7_readsTitle_94 rfl (by decide) ?_
                  refine s_istore_n C 96 dX7_readsTitle_95 rfl rfl rfl ?_
                  dsimp only [List.set]
                  refine s_aload_n C 97 dX7_readsTitle_96 rfl rfl ?_
                  refine s_dup C 98 dX7_readsTitle_97 rfl rfl ?_
                  refine s_getf C 101 dX7_readsTitle_98 rfl f_X7_123 hO rfl ?_
                  refine s_iload_n C 102 dX7_readsTitle_101 rfl rfl ?_
                  refine s_if_eqN C 109 105 dX7_readsTitle_102 (by decide) rfl (by omega) (fun z102 => ?_) (fun z102 => ?_)
                  · skip
                    refine s_iconst C 110 (nI 0) dX7_readsTitle_109 rfl (by decide) ?_
                    refine s_iaddN C 111 dX7_readsTitle_110 rfl ?_
                    refine s_putU C 114 dX7_readsTitle_111 rfl p_X7_123 hO (by first | decide | omega) rfl rfl rfl (fs' := [.ref sa, .ref ha, .int (nI c), .ref xa, .int (nI tl), .ref ra, .ref la, .ref qa, .int (nI al), .ref ka, .int (nI rm), .ref pa, .int fs, .int fe, .ref za, .ref wa, .ref ua, .int (nI ((ap + cnt) + 0)), .int cm, .int (nI nu), .int (nI ap), .int (nI en)]) rfl (fun M59 U60 => ?_)
                    have hX := U60.o hO hX (by first | decide | omega)
                    have hF := hF.put U60 hO (by first | decide | (simp; done) | (simp; omega) | (simp [*]; done))
                    have hO := U60.s
                    refine s_goto C 10 dX7_readsTitle_114 (by decide) ?_
                    refine s_iload_n C 11 dX7_readsTitle_10 rfl rfl ?_
                    refine s_if_eqN C 117 14 dX7_readsTitle_11 (by decide) rfl (by omega) (fun z11 => ?_) (fun z11 => ?_)
                    · skip
                      refine s_aload_n C 118 dX7_readsTitle_117 rfl rfl ?_
                      refine s_aload_n C 119 dX7_readsTitle_118 rfl rfl ?_
                      refine s_getf C 122 dX7_readsTitle_119 rfl f_X7_123 hO rfl ?_
                      refine s_putU C 125 dX7_readsTitle_122 rfl p_X7_140 hO (by first | decide | omega) rfl rfl rfl (fs' := [.ref sa, .ref ha, .int (nI c), .ref xa, .int (nI tl), .ref ra, .ref la, .ref qa, .int (nI al), .ref ka, .int (nI rm), .ref pa, .int fs, .int fe, .ref za, .ref wa, .ref ua, .int (nI ((ap + cnt) + 0)), .int cm, .int (nI nu), .int (nI ap), .int (nI ((ap + cnt) + 0))]) rfl (fun M61 U62 => ?_)
                      have hX := U62.o hO hX (by first | decide | omega)
                      have hF := hF.put U62 hO (by first | decide | (simp; done) | (simp; omega) | (simp [*]; done))
                      have hO := U62.s
                      refine s_aload_n C 126 dX7_readsTitle_125 rfl rfl ?_
                      refine s_getf C 129 dX7_readsTitle_126 rfl f_X7_123 hO rfl ?_
                      refine s_aload_n C 130 dX7_readsTitle_129 rfl rfl ?_
                      refine s_getf C 133 dX7_readsTitle_130 rfl f_X7_134 hO rfl ?_
                      refine s_icmp_leN C 156 136 dX7_readsTitle_133 (by decide) rfl (by omega) (by omega) (fun z133 => ?_) (fun z133 => ?_)
                      · skip
                        omega
                      · skip
                        refine s_aload_n C 137 dX7_readsTitle_136 rfl rfl ?_
                        refine s_aload_n C 138 dX7_readsTitle_137 rfl rfl ?_
                        refine s_getf C 141 dX7_readsTitle_138 rfl f_X7_123 hO rfl ?_
                        refine s_iconst C 142 (nI 1) dX7_readsTitle_141 rfl (by decide) ?_
                        refine s_isubN C 143 dX7_readsTitle_142 rfl (by omega) ?_
                        refine s_invV C 146 0 0 [] (mRv_of hO rfl) dX7_readsTitle_143 rfl m_X7_126 (n_typedAt hO hX hXg htl (p := (((ap + cnt) + 0) - 1)) (by omega)) rfl rfl rfl ⟨by decide, by decide⟩ (Nat.le_of_ble_eq_true rfl) (by omega) (by omega) ?_
                        rintro _ M63 ⟨rfl, rfl⟩
                        dsimp only [Option.toList, List.cons_append, List.nil_append]
                        refine s_invS C 149 0 0 [] dX7_readsTitle_146 rfl m_X7_137 (n_isLetter) rfl rfl rfl ⟨by decide, by decide⟩ (Nat.le_of_ble_eq_true rfl) (by omega) (by omega) ?_
                        rintro _ M64 ⟨rfl, rfl⟩
                        dsimp only [Option.toList, List.cons_append, List.nil_append]
                        refine s_if_eqB C 156 152 dX7_readsTitle_149 (by decide) rfl (fun z149 => ?_) (fun z149 => ?_)
                        · skip
                          rw [show isL (tyA g tl (ap + cnt + 0 - 1)) = true from z50] at z149; cases z149
                        · skip
                          refine s_iconst C 153 (nI 1) dX7_readsTitle_152 rfl (by decide) ?_
                          refine s_goto C 157 dX7_readsTitle_153 (by decide) ?_
                          exact s_zret C dX7_readsTitle_157 Tr rfl (by decide) ⟨rT (by rw [hst]; show (!nd) = _; rw [hndv]; rfl), by rw [hst]; exact hO, hF⟩
                    · skip
                      omega
                  · skip
                    omega
                · skip
                  have hst : ptF g tl 24 ap true = ptF g tl (24 - (cnt + 1)) (ap + (cnt + 1)) true := by rw [hpt, show 24 - cnt = (24 - (cnt + 1)) + 1 by omega]; exact ptF_b z76 hndv (by omega)
                  have hnd2 : true = !(decide (0 < cnt + 1) && isL (tyA g tl (ap + (cnt + 1) - 1))) := by rw [show ap + (cnt + 1) - 1 = ap + cnt by omega, z76, show isL (nI 32) = false by decide, Bool.and_false]; rfl
                  refine s_iconst C 91 (nI 1) dX7_readsTitle_90 rfl (by decide) ?_
                  refine s_goto C 95 dX7_readsTitle_91 (by decide) ?_
                  refine s_istore_n C 96 dX7_readsTitle_95 rfl rfl rfl ?_
                  dsimp only [List.set]
                  refine s_aload_n C 97 dX7_readsTitle_96 rfl rfl ?_
                  refine s_dup C 98 dX7_readsTitle_97 rfl rfl ?_
                  refine s_getf C 101 dX7_readsTitle_98 rfl f_X7_123 hO rfl ?_
                  refine s_iload_n C 102 dX7_readsTitle_101 rfl rfl ?_
                  refine s_if_eqN C 109 105 dX7_readsTitle_102 (by decide) rfl (by omega) (fun z102 => ?_) (fun z102 => ?_)
                  · skip
                    omega
                  · skip
                    refine s_iconst C 106 (nI 1) dX7_readsTitle_105 rfl (by decide) ?_
                    refine s_goto C 110 dX7_readsTitle_106 (by decide) ?_
                    refine s_iaddN C 111 dX7_readsTitle_110 rfl ?_
                    refine s_putU C 114 dX7_readsTitle_111 rfl p_X7_123 hO (by first | decide | omega) rfl rfl rfl (fs' := [.ref sa, .ref ha, .int (nI c), .ref xa, .int (nI tl), .ref ra, .ref la, .ref qa, .int (nI al), .ref ka, .int (nI rm), .ref pa, .int fs, .int fe, .ref za, .ref wa, .ref ua, .int (nI ((ap + cnt) + 1)), .int cm, .int (nI nu), .int (nI ap), .int (nI en)]) rfl (fun M65 U66 => ?_)
                    have hX := U66.o hO hX (by first | decide | omega)
                    have hF := hF.put U66 hO (by first | decide | (simp; done) | (simp; omega) | (simp [*]; done))
                    have hO := U66.s
                    refine s_goto C 10 dX7_readsTitle_114 (by decide) ?_
                    refine V.drop 2 ?_
                    dsimp only [List.set]
                    refine V.drop 3 ?_
                    dsimp only [List.set]
                    refine V.drop 4 ?_
                    dsimp only [List.set]
                    exact ih10 (cnt + 1) true _ (by omega) (by omega) hst hnd2 hO hX hF
          · skip
            refine s_iload_n C 68 dX7_readsTitle_67 rfl rfl ?_
            refine s_bipush C 70 (nI 24) dX7_readsTitle_68 rfl (by decide) ?_
            refine s_icmp_ltN C 90 73 dX7_readsTitle_70 (by decide) rfl (by omega) (by omega) (fun z70 => ?_) (fun z70 => ?_)
            · skip
              have hst : ptF g tl 24 ap true = ptF g tl (24 - (cnt + 1)) (ap + (cnt + 1)) false := by rw [hpt, show 24 - cnt = (24 - (cnt + 1)) + 1 by omega]; exact ptF_l z64
              have hnd2 : false = !(decide (0 < cnt + 1) && isL (tyA g tl (ap + (cnt + 1) - 1))) := by rw [show ap + (cnt + 1) - 1 = ap + cnt by omega, z64, decide_eq_true (by omega)]; rfl
              refine s_iconst C 91 (nI 1) dX7_readsTitle_90 rfl (by decide) ?_
              refine s_goto C 95 dX7_readsTitle_91 (by decide) ?_
              refine s_istore_n C 96 dX7_readsTitle_95 rfl rfl rfl ?_
              dsimp only [List.set]
              refine s_aload_n C 97 dX7_readsTitle_96 rfl rfl ?_
              refine s_dup C 98 dX7_readsTitle_97 rfl rfl ?_
              refine s_getf C 101 dX7_readsTitle_98 rfl f_X7_123 hO rfl ?_
              refine s_iload_n C 102 dX7_readsTitle_101 rfl rfl ?_
              refine s_if_eqN C 109 105 dX7_readsTitle_102 (by decide) rfl (by omega) (fun z102 => ?_) (fun z102 => ?_)
              · skip
                omega
              · skip
                refine s_iconst C 106 (nI 1) dX7_readsTitle_105 rfl (by decide) ?_
                refine s_goto C 110 dX7_readsTitle_106 (by decide) ?_
                refine s_iaddN C 111 dX7_readsTitle_110 rfl ?_
                refine s_putU C 114 dX7_readsTitle_111 rfl p_X7_123 hO (by first | decide | omega) rfl rfl rfl (fs' := [.ref sa, .ref ha, .int (nI c), .ref xa, .int (nI tl), .ref ra, .ref la, .ref qa, .int (nI al), .ref ka, .int (nI rm), .ref pa, .int fs, .int fe, .ref za, .ref wa, .ref ua, .int (nI ((ap + cnt) + 1)), .int cm, .int (nI nu), .int (nI ap), .int (nI en)]) rfl (fun M67 U68 => ?_)
                have hX := U68.o hO hX (by first | decide | omega)
                have hF := hF.put U68 hO (by first | decide | (simp; done) | (simp; omega) | (simp [*]; done))
                have hO := U68.s
                refine s_goto C 10 dX7_readsTitle_114 (by decide) ?_
                refine V.drop 2 ?_
                dsimp only [List.set]
                refine V.drop 3 ?_
                dsimp only [List.set]
                refine V.drop 4 ?_
                dsimp only [List.set]
                exact ih10 (cnt + 1) false _ (by omega) (by omega) hst hnd2 hO hX hF
            · skip
              refine s_iload_n C 74 dX7_readsTitle_73 rfl rfl ?_
              refine s_bipush C 76 (nI 32) dX7_readsTitle_74 rfl (by decide) ?_
              refine s_icmp_ne C 94 79 dX7_readsTitle_76 (by decide) rfl (fun z76 => ?_) (fun z76 => ?_)
              · skip
                have hst : ptF g tl 24 ap true = (ap + cnt, nd) := by rw [hpt, show 24 - cnt = 0 by omega]; rfl
                refine s_iconst C 95 (nI 0) dX7_readsTitle_94 rfl (by decide) ?_
                refine s_istore_n C 96 dX7_readsTitle_95 rfl rfl rfl ?_
                dsimp only [List.set]
                refine s_aload_n C 97 dX7_readsTitle_96 rfl rfl ?_
                refine s_dup C 98 dX7_readsTitle_97 rfl rfl ?_
                refine s_getf C 101 dX7_readsTitle_98 rfl f_X7_123 hO rfl ?_
                refine s_iload_n C 102 dX7_readsTitle_101 rfl rfl ?_
                refine s_if_eqN C 109 105 dX7_readsTitle_102 (by decide) rfl (by omega) (fun z102 => ?_) (fun z102 => ?_)
                · skip
                  refine s_iconst C 110 (nI 0) dX7_readsTitle_109 rfl (by decide) ?_
                  refine s_iaddN C 111 dX7_readsTitle_110 rfl ?_
                  refine s_putU C 114 dX7_readsTitle_111 rfl p_X7_123 hO (by first | decide | omega) rfl rfl rfl (fs' := [.ref sa, .ref ha, .int (nI c), .ref xa, .int (nI tl), .ref ra, .ref la, .ref qa, .int (nI al), .ref ka, .int (nI rm), .ref pa, .int fs, .int fe, .ref za, .ref wa, .ref ua, .int (nI ((ap + cnt) + 0)), .int cm, .int (nI nu), .int (nI ap), .int (nI en)]) rfl (fun M69 U70 => ?_)
                  have hX := U70.o hO hX (by first | decide | omega)
                  have hF := hF.put U70 hO (by first | decide | (simp; done) | (simp; omega) | (simp [*]; done))
                  have hO := U70.s
                  refine s_goto C 10 dX7_readsTitle_114 (by decide) ?_
                  refine s_iload_n C 11 dX7_readsTitle_10 rfl rfl ?_
                  refine s_if_eqN C 117 14 dX7_readsTitle_11 (by decide) rfl (by omega) (fun z11 => ?_) (fun z11 => ?_)
                  · skip
                    refine s_aload_n C 118 dX7_readsTitle_117 rfl rfl ?_
                    refine s_aload_n C 119 dX7_readsTitle_118 rfl rfl ?_
                    refine s_getf C 122 dX7_readsTitle_119 rfl f_X7_123 hO rfl ?_
                    refine s_putU C 125 dX7_readsTitle_122 rfl p_X7_140 hO (by first | decide | omega) rfl rfl rfl (fs' := [.ref sa, .ref ha, .int (nI c), .ref xa, .int (nI tl), .ref ra, .ref la, .ref qa, .int (nI al), .ref ka, .int (nI rm), .ref pa, .int fs, .int fe, .ref za, .ref wa, .ref ua, .int (nI ((ap + cnt) + 0)), .int cm, .int (nI nu), .int (nI ap), .int (nI ((ap + cnt) + 0))]) rfl (fun M71 U72 => ?_)
                    have hX := U72.o hO hX (by first | decide | omega)
                    have hF := hF.put U72 hO (by first | decide | (simp; done) | (simp; omega) | (simp [*]; done))
                    have hO := U72.s
                    refine s_aload_n C 126 dX7_readsTitle_125 rfl rfl ?_
                    refine s_getf C 129 dX7_readsTitle_126 rfl f_X7_123 hO rfl ?_
                    refine s_aload_n C 130 dX7_readsTitle_129 rfl rfl ?_
                    refine s_getf C 133 dX7_readsTitle_130 rfl f_X7_134 hO rfl ?_
                    refine s_icmp_leN C 156 136 dX7_readsTitle_133 (by decide) rfl (by omega) (by omega) (fun z133 => ?_) (fun z133 => ?_)
                    · skip
                      omega
                    · skip
                      refine s_aload_n C 137 dX7_readsTitle_136 rfl rfl ?_
                      refine s_aload_n C 138 dX7_readsTitle_137 rfl rfl ?_
                      refine s_getf C 141 dX7_readsTitle_138 rfl f_X7_123 hO rfl ?_
                      refine s_iconst C 142 (nI 1) dX7_readsTitle_141 rfl (by decide) ?_
                      refine s_isubN C 143 dX7_readsTitle_142 rfl (by omega) ?_
                      refine s_invV C 146 0 0 [] (mRv_of hO rfl) dX7_readsTitle_143 rfl m_X7_126 (n_typedAt hO hX hXg htl (p := (((ap + cnt) + 0) - 1)) (by omega)) rfl rfl rfl ⟨by decide, by decide⟩ (Nat.le_of_ble_eq_true rfl) (by omega) (by omega) ?_
                      rintro _ M73 ⟨rfl, rfl⟩
                      dsimp only [Option.toList, List.cons_append, List.nil_append]
                      refine s_invS C 149 0 0 [] dX7_readsTitle_146 rfl m_X7_137 (n_isLetter) rfl rfl rfl ⟨by decide, by decide⟩ (Nat.le_of_ble_eq_true rfl) (by omega) (by omega) ?_
                      rintro _ M74 ⟨rfl, rfl⟩
                      dsimp only [Option.toList, List.cons_append, List.nil_append]
                      refine s_if_eqB C 156 152 dX7_readsTitle_149 (by decide) rfl (fun z149 => ?_) (fun z149 => ?_)
                      · skip
                        rw [show isL (tyA g tl (ap + cnt + 0 - 1)) = true from z50] at z149; cases z149
                      · skip
                        refine s_iconst C 153 (nI 1) dX7_readsTitle_152 rfl (by decide) ?_
                        refine s_goto C 157 dX7_readsTitle_153 (by decide) ?_
                        exact s_zret C dX7_readsTitle_157 Tr rfl (by decide) ⟨rT (by rw [hst]; show (!nd) = _; rw [hndv]; rfl), by rw [hst]; exact hO, hF⟩
                  · skip
                    omega
                · skip
                  omega
              · skip
                refine s_iload C 81 dX7_readsTitle_79 rfl rfl ?_
                refine s_if_eqN C 94 84 dX7_readsTitle_81 (by decide) rfl (by omega) (fun z81 => ?_) (fun z81 => ?_)
                · skip
                  omega
                · skip
                  refine s_iload_n C 85 dX7_readsTitle_84 rfl rfl ?_
                  refine s_bipush C 87 (nI 23) dX7_readsTitle_85 rfl (by decide) ?_
                  refine s_icmp_geN C 94 90 dX7_readsTitle_87 (by decide) rfl (by omega) (by omega) (fun z87 => ?_) (fun z87 => ?_)
                  · skip
                    have hst : ptF g tl 24 ap true = (ap + cnt, nd) := by rw [hpt, show 24 - cnt = 0 by omega]; rfl
                    refine s_iconst C 95 (nI 0) dX7_readsTitle_94 rfl (by decide) ?_
                    refine s_istore_n C 96 dX7_readsTitle_95 rfl rfl rfl ?_
                    dsimp only [List.set]
                    refine s_aload_n C 97 dX7_readsTitle_96 rfl rfl ?_
                    refine s_dup C 98 dX7_readsTitle_97 rfl rfl ?_
                    refine s_getf C 101 dX7_readsTitle_98 rfl f_X7_123 hO rfl ?_
                    refine s_iload_n C 102 dX7_readsTitle_101 rfl rfl ?_
                    refine s_if_eqN C 109 105 dX7_readsTitle_102 (by decide) rfl (by omega) (fun z102 => ?_) (fun z102 => ?_)
                    · skip
                      refine s_iconst C 110 (nI 0) dX7_readsTitle_109 rfl (by decide) ?_
                      refine s_iaddN C 111 dX7_readsTitle_110 rfl ?_
                      refine s_putU C 114 dX7_readsTitle_111 rfl p_X7_123 hO (by first | decide | omega) rfl rfl rfl (fs' := [.ref sa, .ref ha, .int (nI c), .ref xa, .int (nI tl), .ref ra, .ref la, .ref qa, .int (nI al), .ref ka, .int (nI rm), .ref pa, .int fs, .int fe, .ref za, .ref wa, .ref ua, .int (nI ((ap + cnt) + 0)), .int cm, .int (nI nu), .int (nI ap), .int (nI en)]) rfl (fun M75 U76 => ?_)
                      have hX := U76.o hO hX (by first | decide | omega)
                      have hF := hF.put U76 hO (by first | decide | (simp; done) | (simp; omega) | (simp [*]; done))
                      have hO := U76.s
                      refine s_goto C 10 dX7_readsTitle_114 (by decide) ?_
                      refine s_iload_n C 11 dX7_readsTitle_10 rfl rfl ?_
                      refine s_if_eqN C 117 14 dX7_readsTitle_11 (by decide) rfl (by omega) (fun z11 => ?_) (fun z11 => ?_)
                      · skip
                        refine s_aload_n C 118 dX7_readsTitle_117 rfl rfl ?_
                        refine s_aload_n C 119 dX7_readsTitle_118 rfl rfl ?_
                        refine s_getf C 122 dX7_readsTitle_119 rfl f_X7_123 hO rfl ?_
                        refine s_putU C 125 dX7_readsTitle_122 rfl p_X7_140 hO (by first | decide | omega) rfl rfl rfl (fs' := [.ref sa, .ref ha, .int (nI c), .ref xa, .int (nI tl), .ref ra, .ref la, .ref qa, .int (nI al), .ref ka, .int (nI rm), .ref pa, .int fs, .int fe, .ref za, .ref wa, .ref ua, .int (nI ((ap + cnt) + 0)), .int cm, .int (nI nu), .int (nI ap), .int (nI ((ap + cnt) + 0))]) rfl (fun M77 U78 => ?_)
                        have hX := U78.o hO hX (by first | decide | omega)
                        have hF := hF.put U78 hO (by first | decide | (simp; done) | (simp; omega) | (simp [*]; done))
                        have hO := U78.s
                        refine s_aload_n C 126 dX7_readsTitle_125 rfl rfl ?_
                        refine s_getf C 129 dX7_readsTitle_126 rfl f_X7_123 hO rfl ?_
                        refine s_aload_n C 130 dX7_readsTitle_129 rfl rfl ?_
                        refine s_getf C 133 dX7_readsTitle_130 rfl f_X7_134 hO rfl ?_
                        refine s_icmp_leN C 156 136 dX7_readsTitle_133 (by decide) rfl (by omega) (by omega) (fun z133 => ?_) (fun z133 => ?_)
                        · skip
                          omega
                        · skip
                          refine s_aload_n C 137 dX7_readsTitle_136 rfl rfl ?_
                          refine s_aload_n C 138 dX7_readsTitle_137 rfl rfl ?_
                          refine s_getf C 141 dX7_readsTitle_138 rfl f_X7_123 hO rfl ?_
                          refine s_iconst C 142 (nI 1) dX7_readsTitle_141 rfl (by decide) ?_
                          refine s_isubN C 143 dX7_readsTitle_142 rfl (by omega) ?_
                          refine s_invV C 146 0 0 [] (mRv_of hO rfl) dX7_readsTitle_143 rfl m_X7_126 (n_typedAt hO hX hXg htl (p := (((ap + cnt) + 0) - 1)) (by omega)) rfl rfl rfl ⟨by decide, by decide⟩ (Nat.le_of_ble_eq_true rfl) (by omega) (by omega) ?_
                          rintro _ M79 ⟨rfl, rfl⟩
                          dsimp only [Option.toList, List.cons_append, List.nil_append]
                          refine s_invS C 149 0 0 [] dX7_readsTitle_146 rfl m_X7_137 (n_isLetter) rfl rfl rfl ⟨by decide, by decide⟩ (Nat.le_of_ble_eq_true rfl) (by omega) (by omega) ?_
                          rintro _ M80 ⟨rfl, rfl⟩
                          dsimp only [Option.toList, List.cons_append, List.nil_append]
                          refine s_if_eqB C 156 152 dX7_readsTitle_149 (by decide) rfl (fun z149 => ?_) (fun z149 => ?_)
                          · skip
                            rw [show isL (tyA g tl (ap + cnt + 0 - 1)) = true from z50] at z149; cases z149
                          · skip
                            refine s_iconst C 153 (nI 1) dX7_readsTitle_152 rfl (by decide) ?_
                            refine s_goto C 157 dX7_readsTitle_153 (by decide) ?_
                            exact s_zret C dX7_readsTitle_157 Tr rfl (by decide) ⟨rT (by rw [hst]; show (!nd) = _; rw [hndv]; rfl), by rw [hst]; exact hO, hF⟩
                      · skip
                        omega
                    · skip
                      omega
                  · skip
                    have hst : ptF g tl 24 ap true = ptF g tl (24 - (cnt + 1)) (ap + (cnt + 1)) true := by rw [hpt, show 24 - cnt = (24 - (cnt + 1)) + 1 by omega]; exact ptF_b z76 hndv (by omega)
                    have hnd2 : true = !(decide (0 < cnt + 1) && isL (tyA g tl (ap + (cnt + 1) - 1))) := by rw [show ap + (cnt + 1) - 1 = ap + cnt by omega, z76, show isL (nI 32) = false by decide, Bool.and_false]; rfl
                    refine s_iconst C 91 (nI 1) dX7_readsTitle_90 rfl (by decide) ?_
                    refine s_goto C 95 dX7_readsTitle_91 (by decide) ?_
                    refine s_istore_n C 96 dX7_readsTitle_95 rfl rfl rfl ?_
                    dsimp only [List.set]
                    refine s_aload_n C 97 dX7_readsTitle_96 rfl rfl ?_
                    refine s_dup C 98 dX7_readsTitle_97 rfl rfl ?_
                    refine s_getf C 101 dX7_readsTitle_98 rfl f_X7_123 hO rfl ?_
                    refine s_iload_n C 102 dX7_readsTitle_101 rfl rfl ?_
                    refine s_if_eqN C 109 105 dX7_readsTitle_102 (by decide) rfl (by omega) (fun z102 => ?_) (fun z102 => ?_)
                    · skip
                      omega
                    · skip
                      refine s_iconst C 106 (nI 1) dX7_readsTitle_105 rfl (by decide) ?_
                      refine s_goto C 110 dX7_readsTitle_106 (by decide) ?_
                      refine s_iaddN C 111 dX7_readsTitle_110 rfl ?_
                      refine s_putU C 114 dX7_readsTitle_111 rfl p_X7_123 hO (by first | decide | omega) rfl rfl rfl (fs' := [.ref sa, .ref ha, .int (nI c), .ref xa, .int (nI tl), .ref ra, .ref la, .ref qa, .int (nI al), .ref ka, .int (nI rm), .ref pa, .int fs, .int fe, .ref za, .ref wa, .ref ua, .int (nI ((ap + cnt) + 1)), .int cm, .int (nI nu), .int (nI ap), .int (nI en)]) rfl (fun M81 U82 => ?_)
                      have hX := U82.o hO hX (by first | decide | omega)
                      have hF := hF.put U82 hO (by first | decide | (simp; done) | (simp; omega) | (simp [*]; done))
                      have hO := U82.s
                      refine s_goto C 10 dX7_readsTitle_114 (by decide) ?_
                      refine V.drop 2 ?_
                      dsimp only [List.set]
                      refine V.drop 3 ?_
                      dsimp only [List.set]
                      refine V.drop 4 ?_
                      dsimp only [List.set]
                      exact ih10 (cnt + 1) true _ (by omega) (by omega) hst hnd2 hO hX hF

set_option maxRecDepth 100000 in
set_option maxHeartbeats 4000000 in
theorem n_readsNumber {G : mG} {M : mM} {m sa ha c xa tl ra la qa al ka rm pa za wa ua ap nu be en : Nat} {fs fe cm : Int32} (hO : M m = some (300, .inl (8, nL sa ha c xa tl ra la qa al ka rm pa fs fe za wa ua ap cm nu be en))) {xt g : Nat → Int32} (hX : M xa = some (303, .inr (0, 80, .inl xt))) (hXg : ∀ k, k < tl → xt k = g k) (htl : tl ≤ 80) (hp : ap < 900) : CC G iX7_readsNumber 0 0 [.ref m] M (fun r M1 => r = some (.int (mB (decide (0 < pnN g tl ap)))) ∧ M1 m = some (300, .inl (8, nL sa ha c xa tl ra la qa al ka rm pa fs fe za wa ua (ap + pnN g tl ap) cm (pnV g tl ap) be en)) ∧ mZ [300] M M1) := by
  refine CC.of rfl (Nat.le_of_ble_eq_true rfl) rfl (fun X C Tr => ?_)
  show V X 0 0 0 [some (.ref m), none] [] M
  have hF : mZ [300] M M := mZ.rf
  refine s_aload_n C 1 dX7_readsNumber_0 rfl rfl ?_
  refine s_iconst C 2 (nI 0) dX7_readsNumber_1 rfl (by decide) ?_
  refine s_putU C 5 dX7_readsNumber_2 rfl p_X7_143 hO (by first | decide | omega) rfl rfl rfl (fs' := [.ref sa, .ref ha, .int (nI c), .ref xa, .int (nI tl), .ref ra, .ref la, .ref qa, .int (nI al), .ref ka, .int (nI rm), .ref pa, .int fs, .int fe, .ref za, .ref wa, .ref ua, .int (nI ap), .int cm, .int (nI 0), .int (nI be), .int (nI en)]) rfl (fun M1 U2 => ?_)
  have hX := U2.o hO hX (by first | decide | omega)
  have hF := hF.put U2 hO (by first | decide | (simp; done) | (simp; omega) | (simp [*]; done))
  have hO := U2.s
  refine s_iconst C 6 (nI 0) dX7_readsNumber_5 rfl (by decide) ?_
  refine s_istore_n C 7 dX7_readsNumber_6 rfl rfl rfl ?_
  dsimp only [List.set]
  show V X 0 0 7 [some (.ref m), some (.int (nI 0))] [] M1
  refine s_iload_n C 8 dX7_readsNumber_7 rfl rfl ?_
  refine s_iconst C 9 (nI 2) dX7_readsNumber_8 rfl (by decide) ?_
  refine s_icmp_geN C 69 12 dX7_readsNumber_9 (by decide) rfl (by omega) (by omega) (fun z9 => ?_) (fun z9 => ?_)
  · skip
    omega
  · skip
    refine s_aload_n C 13 dX7_readsNumber_12 rfl rfl ?_
    refine s_aload_n C 14 dX7_readsNumber_13 rfl rfl ?_
    refine s_getf C 17 dX7_readsNumber_14 rfl f_X7_123 hO rfl ?_
    refine s_invV C 20 0 0 [] (mRv_of hO rfl) dX7_readsNumber_17 rfl m_X7_126 (n_typedAt hO hX hXg htl (p := ap) (by omega)) rfl rfl rfl ⟨by decide, by decide⟩ (Nat.le_of_ble_eq_true rfl) (by omega) (by omega) ?_
    rintro _ M3 ⟨rfl, rfl⟩
    dsimp only [Option.toList, List.cons_append, List.nil_append]
    refine s_bipush C 22 (nI 48) dX7_readsNumber_20 rfl (by decide) ?_
    refine s_bipush C 24 (nI 57) dX7_readsNumber_22 rfl (by decide) ?_
    refine s_invS C 27 0 0 [] dX7_readsNumber_24 rfl m_X7_47 (n_within) rfl rfl rfl ⟨by decide, by decide⟩ (Nat.le_of_ble_eq_true rfl) (by omega) (by omega) ?_
    rintro _ M4 ⟨rfl, rfl⟩
    dsimp only [Option.toList, List.cons_append, List.nil_append]
    rw [wiD]
    refine s_if_eqB C 69 30 dX7_readsNumber_27 (by decide) rfl (fun z27 => ?_) (fun z27 => ?_)
    · skip
      have hpn := pnN_0 z27
      refine s_iload_n C 70 dX7_readsNumber_69 rfl rfl ?_
      refine s_if_leN C 77 73 dX7_readsNumber_70 (by decide) rfl (by omega) (fun z70 => ?_) (fun z70 => ?_)
      · skip
        refine s_iconst C 78 (nI 0) dX7_readsNumber_77 rfl (by decide) ?_
        exact s_zret C dX7_readsNumber_78 Tr rfl (by decide) ⟨rF (by rw [hpn.1]; rfl), by rw [hpn.1, hpn.2]; exact hO, hF⟩
      · skip
        omega
    · skip
      refine s_aload_n C 31 dX7_readsNumber_30 rfl rfl ?_
      refine s_bipush C 33 (nI 10) dX7_readsNumber_31 rfl (by decide) ?_
      refine s_aload_n C 34 dX7_readsNumber_33 rfl rfl ?_
      refine s_getf C 37 dX7_readsNumber_34 rfl f_X7_143 hO rfl ?_
      refine s_imulN C 38 dX7_readsNumber_37 rfl ?_
      refine s_aload_n C 39 dX7_readsNumber_38 rfl rfl ?_
      refine s_aload_n C 40 dX7_readsNumber_39 rfl rfl ?_
      refine s_getf C 43 dX7_readsNumber_40 rfl f_X7_123 hO rfl ?_
      refine s_invV C 46 0 0 [.int (nI (10 * 0)), .ref m] (mRv_of hO rfl) dX7_readsNumber_43 rfl m_X7_126 (n_typedAt hO hX hXg htl (p := ap) (by omega)) rfl rfl rfl ⟨by decide, by decide⟩ (Nat.le_of_ble_eq_true rfl) (by omega) (by omega) ?_
      rintro _ M5 ⟨rfl, rfl⟩
      dsimp only [Option.toList, List.cons_append, List.nil_append]
      refine s_iadd C 47 dX7_readsNumber_46 rfl ?_
      refine s_bipush C 49 (nI 48) dX7_readsNumber_47 rfl (by decide) ?_
      refine s_isub C 50 dX7_readsNumber_49 rfl ?_
      rw [show nI (10 * 0) + tyA g tl (ap) - nI 48 = nI (10 * 0 + dg (g (ap))) from dg_step z27]
      have hd0 := z27
      refine s_putU C 53 dX7_readsNumber_50 rfl p_X7_143 hO (by first | decide | omega) rfl rfl rfl (fs' := [.ref sa, .ref ha, .int (nI c), .ref xa, .int (nI tl), .ref ra, .ref la, .ref qa, .int (nI al), .ref ka, .int (nI rm), .ref pa, .int fs, .int fe, .ref za, .ref wa, .ref ua, .int (nI ap), .int cm, .int (nI (10 * 0 + dg (g (ap)))), .int (nI be), .int (nI en)]) rfl (fun M6 U7 => ?_)
      have hX := U7.o hO hX (by first | decide | omega)
      have hF := hF.put U7 hO (by first | decide | (simp; done) | (simp; omega) | (simp [*]; done))
      have hO := U7.s
      refine s_iinc C 56 (nI (0 + 1)) dX7_readsNumber_53 rfl rfl (by rw [← nI_add]; rfl) rfl ?_
      dsimp only [List.set]
      refine s_aload_n C 57 dX7_readsNumber_56 rfl rfl ?_
      refine s_dup C 58 dX7_readsNumber_57 rfl rfl ?_
      refine s_getf C 61 dX7_readsNumber_58 rfl f_X7_123 hO rfl ?_
      refine s_iconst C 62 (nI 1) dX7_readsNumber_61 rfl (by decide) ?_
      refine s_iaddN C 63 dX7_readsNumber_62 rfl ?_
      refine s_putU C 66 dX7_readsNumber_63 rfl p_X7_123 hO (by first | decide | omega) rfl rfl rfl (fs' := [.ref sa, .ref ha, .int (nI c), .ref xa, .int (nI tl), .ref ra, .ref la, .ref qa, .int (nI al), .ref ka, .int (nI rm), .ref pa, .int fs, .int fe, .ref za, .ref wa, .ref ua, .int (nI (ap + 1)), .int cm, .int (nI (10 * 0 + dg (g (ap)))), .int (nI be), .int (nI en)]) rfl (fun M8 U9 => ?_)
      have hX := U9.o hO hX (by first | decide | omega)
      have hF := hF.put U9 hO (by first | decide | (simp; done) | (simp; omega) | (simp [*]; done))
      have hO := U9.s
      refine s_goto C 7 dX7_readsNumber_66 (by decide) ?_
      show V X 0 0 7 [some (.ref m), some (.int (nI 1))] [] M8
      refine s_iload_n C 8 dX7_readsNumber_7 rfl rfl ?_
      refine s_iconst C 9 (nI 2) dX7_readsNumber_8 rfl (by decide) ?_
      refine s_icmp_geN C 69 12 dX7_readsNumber_9 (by decide) rfl (by omega) (by omega) (fun z9 => ?_) (fun z9 => ?_)
      · skip
        omega
      · skip
        refine s_aload_n C 13 dX7_readsNumber_12 rfl rfl ?_
        refine s_aload_n C 14 dX7_readsNumber_13 rfl rfl ?_
        refine s_getf C 17 dX7_readsNumber_14 rfl f_X7_123 hO rfl ?_
        refine s_invV C 20 0 0 [] (mRv_of hO rfl) dX7_readsNumber_17 rfl m_X7_126 (n_typedAt hO hX hXg htl (p := (ap + 1)) (by omega)) rfl rfl rfl ⟨by decide, by decide⟩ (Nat.le_of_ble_eq_true rfl) (by omega) (by omega) ?_
        rintro _ M10 ⟨rfl, rfl⟩
        dsimp only [Option.toList, List.cons_append, List.nil_append]
        refine s_bipush C 22 (nI 48) dX7_readsNumber_20 rfl (by decide) ?_
        refine s_bipush C 24 (nI 57) dX7_readsNumber_22 rfl (by decide) ?_
        refine s_invS C 27 0 0 [] dX7_readsNumber_24 rfl m_X7_47 (n_within) rfl rfl rfl ⟨by decide, by decide⟩ (Nat.le_of_ble_eq_true rfl) (by omega) (by omega) ?_
        rintro _ M11 ⟨rfl, rfl⟩
        dsimp only [Option.toList, List.cons_append, List.nil_append]
        rw [wiD]
        refine s_if_eqB C 69 30 dX7_readsNumber_27 (by decide) rfl (fun z27 => ?_) (fun z27 => ?_)
        · skip
          have hpn := pnN_1 hd0 z27
          refine s_iload_n C 70 dX7_readsNumber_69 rfl rfl ?_
          refine s_if_leN C 77 73 dX7_readsNumber_70 (by decide) rfl (by omega) (fun z70 => ?_) (fun z70 => ?_)
          · skip
            omega
          · skip
            refine s_iconst C 74 (nI 1) dX7_readsNumber_73 rfl (by decide) ?_
            refine s_goto C 78 dX7_readsNumber_74 (by decide) ?_
            exact s_zret C dX7_readsNumber_78 Tr rfl (by decide) ⟨rT (by rw [hpn.1]; rfl), by rw [hpn.1, hpn.2]; exact hO, hF⟩
        · skip
          refine s_aload_n C 31 dX7_readsNumber_30 rfl rfl ?_
          refine s_bipush C 33 (nI 10) dX7_readsNumber_31 rfl (by decide) ?_
          refine s_aload_n C 34 dX7_readsNumber_33 rfl rfl ?_
          refine s_getf C 37 dX7_readsNumber_34 rfl f_X7_143 hO rfl ?_
          refine s_imulN C 38 dX7_readsNumber_37 rfl ?_
          refine s_aload_n C 39 dX7_readsNumber_38 rfl rfl ?_
          refine s_aload_n C 40 dX7_readsNumber_39 rfl rfl ?_
          refine s_getf C 43 dX7_readsNumber_40 rfl f_X7_123 hO rfl ?_
          refine s_invV C 46 0 0 [.int (nI (10 * (10 * 0 + dg (g (ap))))), .ref m] (mRv_of hO rfl) dX7_readsNumber_43 rfl m_X7_126 (n_typedAt hO hX hXg htl (p := (ap + 1)) (by omega)) rfl rfl rfl ⟨by decide, by decide⟩ (Nat.le_of_ble_eq_true rfl) (by omega) (by omega) ?_
          rintro _ M12 ⟨rfl, rfl⟩
          dsimp only [Option.toList, List.cons_append, List.nil_append]
          refine s_iadd C 47 dX7_readsNumber_46 rfl ?_
          refine s_bipush C 49 (nI 48) dX7_readsNumber_47 rfl (by decide) ?_
          refine s_isub C 50 dX7_readsNumber_49 rfl ?_
          rw [show nI (10 * (10 * 0 + dg (g ap))) + tyA g tl (ap + 1) - nI 48 = nI (10 * (10 * 0 + dg (g ap)) + dg (g (ap + 1))) from dg_step z27]
          have hd1 := z27
          refine s_putU C 53 dX7_readsNumber_50 rfl p_X7_143 hO (by first | decide | omega) rfl rfl rfl (fs' := [.ref sa, .ref ha, .int (nI c), .ref xa, .int (nI tl), .ref ra, .ref la, .ref qa, .int (nI al), .ref ka, .int (nI rm), .ref pa, .int fs, .int fe, .ref za, .ref wa, .ref ua, .int (nI (ap + 1)), .int cm, .int (nI (10 * (10 * 0 + dg (g ap)) + dg (g (ap + 1)))), .int (nI be), .int (nI en)]) rfl (fun M13 U14 => ?_)
          have hX := U14.o hO hX (by first | decide | omega)
          have hF := hF.put U14 hO (by first | decide | (simp; done) | (simp; omega) | (simp [*]; done))
          have hO := U14.s
          refine s_iinc C 56 (nI (1 + 1)) dX7_readsNumber_53 rfl rfl (by rw [← nI_add]; rfl) rfl ?_
          dsimp only [List.set]
          refine s_aload_n C 57 dX7_readsNumber_56 rfl rfl ?_
          refine s_dup C 58 dX7_readsNumber_57 rfl rfl ?_
          refine s_getf C 61 dX7_readsNumber_58 rfl f_X7_123 hO rfl ?_
          refine s_iconst C 62 (nI 1) dX7_readsNumber_61 rfl (by decide) ?_
          refine s_iaddN C 63 dX7_readsNumber_62 rfl ?_
          refine s_putU C 66 dX7_readsNumber_63 rfl p_X7_123 hO (by first | decide | omega) rfl rfl rfl (fs' := [.ref sa, .ref ha, .int (nI c), .ref xa, .int (nI tl), .ref ra, .ref la, .ref qa, .int (nI al), .ref ka, .int (nI rm), .ref pa, .int fs, .int fe, .ref za, .ref wa, .ref ua, .int (nI ((ap + 1) + 1)), .int cm, .int (nI (10 * (10 * 0 + dg (g ap)) + dg (g (ap + 1)))), .int (nI be), .int (nI en)]) rfl (fun M15 U16 => ?_)
          have hX := U16.o hO hX (by first | decide | omega)
          have hF := hF.put U16 hO (by first | decide | (simp; done) | (simp; omega) | (simp [*]; done))
          have hO := U16.s
          refine s_goto C 7 dX7_readsNumber_66 (by decide) ?_
          show V X 0 0 7 [some (.ref m), some (.int (nI 2))] [] M15
          refine s_iload_n C 8 dX7_readsNumber_7 rfl rfl ?_
          refine s_iconst C 9 (nI 2) dX7_readsNumber_8 rfl (by decide) ?_
          refine s_icmp_geN C 69 12 dX7_readsNumber_9 (by decide) rfl (by omega) (by omega) (fun z9 => ?_) (fun z9 => ?_)
          · skip
            have hpn := pnN_2 hd0 hd1
            refine s_iload_n C 70 dX7_readsNumber_69 rfl rfl ?_
            refine s_if_leN C 77 73 dX7_readsNumber_70 (by decide) rfl (by omega) (fun z70 => ?_) (fun z70 => ?_)
            · skip
              omega
            · skip
              refine s_iconst C 74 (nI 1) dX7_readsNumber_73 rfl (by decide) ?_
              refine s_goto C 78 dX7_readsNumber_74 (by decide) ?_
              exact s_zret C dX7_readsNumber_78 Tr rfl (by decide) ⟨rT (by rw [hpn.1]; rfl), by rw [hpn.1, hpn.2]; exact hO, hF⟩
          · skip
            omega

set_option maxRecDepth 100000 in
set_option maxHeartbeats 4000000 in
theorem n_readsMode {G : mG} {M : mM} {m sa ha c xa tl ra la qa al ka rm pa za wa ua ap nu be en : Nat} {fs fe cm : Int32} (hO : M m = some (300, .inl (8, nL sa ha c xa tl ra la qa al ka rm pa fs fe za wa ua ap cm nu be en))) {xt g : Nat → Int32} (hX : M xa = some (303, .inr (0, 80, .inl xt))) (hXg : ∀ k, k < tl → xt k = g k) (htl : tl ≤ 80) (hp : ap < 900) : CC G iX7_readsMode 0 0 [.ref m] M (fun r M1 => r = some (.int (mB (po g tl ap 7 4 0).1.isSome)) ∧ (∃ nu1, M1 m = some (300, .inl (8, nL sa ha c xa tl ra la qa al ka rm pa fs fe za wa ua ((po g tl ap 7 4 0).2) cm nu1 be en)) ∧ ((po g tl ap 7 4 0).1.isSome = true → nu1 = (po g tl ap 7 4 0).1.getD 7 - 7)) ∧ mZ [300] M M1) := by
  refine CC.of rfl (Nat.le_of_ble_eq_true rfl) rfl (fun X C Tr => ?_)
  show V X 0 0 0 [some (.ref m), none] [] M
  have hF : mZ [300] M M := mZ.rf
  refine s_aload_n C 1 dX7_readsMode_0 rfl rfl ?_
  refine s_aload_n C 2 dX7_readsMode_1 rfl rfl ?_
  refine s_getf C 5 dX7_readsMode_2 rfl f_X7_123 hO rfl ?_
  refine s_invV C 8 0 0 [] (mRv_of hO rfl) dX7_readsMode_5 rfl m_X7_126 (n_typedAt hO hX hXg htl (p := ap) (by omega)) rfl rfl rfl ⟨by decide, by decide⟩ (Nat.le_of_ble_eq_true rfl) (by omega) (by omega) ?_
  rintro _ M1 ⟨rfl, rfl⟩
  dsimp only [Option.toList, List.cons_append, List.nil_append]
  refine s_istore_n C 9 dX7_readsMode_8 rfl rfl rfl ?_
  dsimp only [List.set]
  refine s_aload_n C 10 dX7_readsMode_9 rfl rfl ?_
  refine s_iload_n C 11 dX7_readsMode_10 rfl rfl ?_
  refine s_bipush C 13 (nI 112) dX7_readsMode_11 rfl (by decide) ?_
  refine s_icmp_ne C 20 16 dX7_readsMode_13 (by decide) rfl (fun z13 => ?_) (fun z13 => ?_)
  · skip
    have hc0 := z13
    refine s_iload_n C 21 dX7_readsMode_20 rfl rfl ?_
    refine s_bipush C 23 (nI 115) dX7_readsMode_21 rfl (by decide) ?_
    refine s_icmp_ne C 30 26 dX7_readsMode_23 (by decide) rfl (fun z23 => ?_) (fun z23 => ?_)
    · skip
      have hc1 := z23
      refine s_iload_n C 31 dX7_readsMode_30 rfl rfl ?_
      refine s_bipush C 33 (nI 119) dX7_readsMode_31 rfl (by decide) ?_
      refine s_icmp_ne C 40 36 dX7_readsMode_33 (by decide) rfl (fun z33 => ?_) (fun z33 => ?_)
      · skip
        have hc2 := z33
        refine s_iconst C 41 (nI 3) dX7_readsMode_40 rfl (by decide) ?_
        refine s_putU C 44 dX7_readsMode_41 rfl p_X7_143 hO (by first | decide | omega) rfl rfl rfl (fs' := [.ref sa, .ref ha, .int (nI c), .ref xa, .int (nI tl), .ref ra, .ref la, .ref qa, .int (nI al), .ref ka, .int (nI rm), .ref pa, .int fs, .int fe, .ref za, .ref wa, .ref ua, .int (nI ap), .int cm, .int (nI 3), .int (nI be), .int (nI en)]) rfl (fun M2 U3 => ?_)
        have hX := U3.o hO hX (by first | decide | omega)
        have hF := hF.put U3 hO (by first | decide | (simp; done) | (simp; omega) | (simp [*]; done))
        have hO := U3.s
        refine s_aload_n C 45 dX7_readsMode_44 rfl rfl ?_
        refine s_iload_n C 46 dX7_readsMode_45 rfl rfl ?_
        refine s_bipush C 48 (nI 112) dX7_readsMode_46 rfl (by decide) ?_
        refine s_icmp_ne C 57 51 dX7_readsMode_48 (by decide) rfl (fun z48 => ?_) (fun z48 => ?_)
        · skip
          refine s_iload_n C 58 dX7_readsMode_57 rfl rfl ?_
          refine s_bipush C 60 (nI 115) dX7_readsMode_58 rfl (by decide) ?_
          refine s_icmp_ne C 69 63 dX7_readsMode_60 (by decide) rfl (fun z60 => ?_) (fun z60 => ?_)
          · skip
            refine s_iload_n C 70 dX7_readsMode_69 rfl rfl ?_
            refine s_bipush C 72 (nI 119) dX7_readsMode_70 rfl (by decide) ?_
            refine s_icmp_ne C 81 75 dX7_readsMode_72 (by decide) rfl (fun z72 => ?_) (fun z72 => ?_)
            · skip
              refine s_ldc2 C 84 (8317129717398990441) dX7_readsMode_81 rfl l_X7_152 ?_
              have hpo := po_end (po_first (g := g) (n := tl) (p := ap) (i := 10) (k := 7) (fu := 4) (by omega) (by omega) (by omega) (fun j h1 h2 h3 => by have h4 : j = 7 ∨ j = 8 ∨ j = 9 := (by omega); rcases h4 with rfl | rfl | rfl <;> first | exact hc0 | exact hc1 | exact hc2))
              refine s_invV C 87 0 0 [] (mRv_of hO rfl) dX7_readsMode_84 rfl m_X7_154 (n_readsWord (p := ap) (s0 := 0) (i := 10) (L := (8317129717398990441)) hO hX hXg htl (by unfold wdK; decide +kernel) (by omega) (by omega) (by omega)) rfl rfl rfl ⟨by decide, by decide⟩ (Nat.le_of_ble_eq_true rfl) (by omega) (by omega) ?_
              rintro _ M4 ⟨rfl, hO7, hFw⟩
              dsimp only [Option.toList, List.cons_append, List.nil_append]
              have hX := hFw.at hX (by decide)
              have hO := hO7
              have hF := hF.tr hFw
              exact s_zret C dX7_readsMode_87 Tr rfl (mB_z _) ⟨by rw [hpo.2]; unfold mW0; by_cases e : mw g tl ap 10 0 (wdL 10) = wdL 10 <;> simp [e], ⟨3, by rw [hpo.1]; exact hO, fun hs => by rw [hpo.2]; rw [hpo.2] at hs; by_cases e : mW0 g tl ap 10 = wdL 10; (· rw [if_pos e]; rfl); rw [if_neg e] at hs; cases hs⟩, hF⟩
            · skip
              first | exact absurd z72 hc2 | (rw [hcv] at z72; exact absurd z72 (nI_ne (by decide) (by decide) (by decide)))
          · skip
            first | exact absurd z60 hc1 | (rw [hcv] at z60; exact absurd z60 (nI_ne (by decide) (by decide) (by decide)))
        · skip
          first | exact absurd z48 hc0 | (rw [hcv] at z48; exact absurd z48 (nI_ne (by decide) (by decide) (by decide)))
      · skip
        have hcv := z33
        refine s_iconst C 37 (nI 2) dX7_readsMode_36 rfl (by decide) ?_
        refine s_goto C 41 dX7_readsMode_37 (by decide) ?_
        refine s_putU C 44 dX7_readsMode_41 rfl p_X7_143 hO (by first | decide | omega) rfl rfl rfl (fs' := [.ref sa, .ref ha, .int (nI c), .ref xa, .int (nI tl), .ref ra, .ref la, .ref qa, .int (nI al), .ref ka, .int (nI rm), .ref pa, .int fs, .int fe, .ref za, .ref wa, .ref ua, .int (nI ap), .int cm, .int (nI 2), .int (nI be), .int (nI en)]) rfl (fun M5 U6 => ?_)
        have hX := U6.o hO hX (by first | decide | omega)
        have hF := hF.put U6 hO (by first | decide | (simp; done) | (simp; omega) | (simp [*]; done))
        have hO := U6.s
        refine s_aload_n C 45 dX7_readsMode_44 rfl rfl ?_
        refine s_iload_n C 46 dX7_readsMode_45 rfl rfl ?_
        refine s_bipush C 48 (nI 112) dX7_readsMode_46 rfl (by decide) ?_
        refine s_icmp_ne C 57 51 dX7_readsMode_48 (by decide) rfl (fun z48 => ?_) (fun z48 => ?_)
        · skip
          refine s_iload_n C 58 dX7_readsMode_57 rfl rfl ?_
          refine s_bipush C 60 (nI 115) dX7_readsMode_58 rfl (by decide) ?_
          refine s_icmp_ne C 69 63 dX7_readsMode_60 (by decide) rfl (fun z60 => ?_) (fun z60 => ?_)
          · skip
            refine s_iload_n C 70 dX7_readsMode_69 rfl rfl ?_
            refine s_bipush C 72 (nI 119) dX7_readsMode_70 rfl (by decide) ?_
            refine s_icmp_ne C 81 75 dX7_readsMode_72 (by decide) rfl (fun z72 => ?_) (fun z72 => ?_)
            · skip
              exact absurd hcv z72
            · skip
              refine s_ldc2 C 78 (1685221239) dX7_readsMode_75 rfl l_X7_150 ?_
              refine s_goto C 84 dX7_readsMode_78 (by decide) ?_
              have hpo := po_end (po_first (g := g) (n := tl) (p := ap) (i := 9) (k := 7) (fu := 4) (by omega) (by omega) (by omega) (fun j h1 h2 h3 => by have h4 : j = 7 ∨ j = 8 ∨ j = 10 := (by omega); rcases h4 with rfl | rfl | rfl <;> first | (rw [hcv]; exact nI_ne (by decide) (by decide) (by decide))))
              refine s_invV C 87 0 0 [] (mRv_of hO rfl) dX7_readsMode_84 rfl m_X7_154 (n_readsWord (p := ap) (s0 := 0) (i := 9) (L := (1685221239)) hO hX hXg htl (by unfold wdK; decide +kernel) (by omega) (by omega) (by omega)) rfl rfl rfl ⟨by decide, by decide⟩ (Nat.le_of_ble_eq_true rfl) (by omega) (by omega) ?_
              rintro _ M7 ⟨rfl, hO7, hFw⟩
              dsimp only [Option.toList, List.cons_append, List.nil_append]
              have hX := hFw.at hX (by decide)
              have hO := hO7
              have hF := hF.tr hFw
              exact s_zret C dX7_readsMode_87 Tr rfl (mB_z _) ⟨by rw [hpo.2]; unfold mW0; by_cases e : mw g tl ap 9 0 (wdL 9) = wdL 9 <;> simp [e], ⟨2, by rw [hpo.1]; exact hO, fun hs => by rw [hpo.2]; rw [hpo.2] at hs; by_cases e : mW0 g tl ap 9 = wdL 9; (· rw [if_pos e]; rfl); rw [if_neg e] at hs; cases hs⟩, hF⟩
          · skip
            first | exact absurd z60 hc1 | (rw [hcv] at z60; exact absurd z60 (nI_ne (by decide) (by decide) (by decide)))
        · skip
          first | exact absurd z48 hc0 | (rw [hcv] at z48; exact absurd z48 (nI_ne (by decide) (by decide) (by decide)))
    · skip
      have hcv := z23
      refine s_iconst C 27 (nI 1) dX7_readsMode_26 rfl (by decide) ?_
      refine s_goto C 41 dX7_readsMode_27 (by decide) ?_
      refine s_putU C 44 dX7_readsMode_41 rfl p_X7_143 hO (by first | decide | omega) rfl rfl rfl (fs' := [.ref sa, .ref ha, .int (nI c), .ref xa, .int (nI tl), .ref ra, .ref la, .ref qa, .int (nI al), .ref ka, .int (nI rm), .ref pa, .int fs, .int fe, .ref za, .ref wa, .ref ua, .int (nI ap), .int cm, .int (nI 1), .int (nI be), .int (nI en)]) rfl (fun M8 U9 => ?_)
      have hX := U9.o hO hX (by first | decide | omega)
      have hF := hF.put U9 hO (by first | decide | (simp; done) | (simp; omega) | (simp [*]; done))
      have hO := U9.s
      refine s_aload_n C 45 dX7_readsMode_44 rfl rfl ?_
      refine s_iload_n C 46 dX7_readsMode_45 rfl rfl ?_
      refine s_bipush C 48 (nI 112) dX7_readsMode_46 rfl (by decide) ?_
      refine s_icmp_ne C 57 51 dX7_readsMode_48 (by decide) rfl (fun z48 => ?_) (fun z48 => ?_)
      · skip
        refine s_iload_n C 58 dX7_readsMode_57 rfl rfl ?_
        refine s_bipush C 60 (nI 115) dX7_readsMode_58 rfl (by decide) ?_
        refine s_icmp_ne C 69 63 dX7_readsMode_60 (by decide) rfl (fun z60 => ?_) (fun z60 => ?_)
        · skip
          exact absurd hcv z60
        · skip
          refine s_ldc2 C 66 (500135195763) dX7_readsMode_63 rfl l_X7_148 ?_
          refine s_goto C 84 dX7_readsMode_66 (by decide) ?_
          have hpo := po_end (po_first (g := g) (n := tl) (p := ap) (i := 8) (k := 7) (fu := 4) (by omega) (by omega) (by omega) (fun j h1 h2 h3 => by have h4 : j = 7 ∨ j = 9 ∨ j = 10 := (by omega); rcases h4 with rfl | rfl | rfl <;> first | (rw [hcv]; exact nI_ne (by decide) (by decide) (by decide))))
          refine s_invV C 87 0 0 [] (mRv_of hO rfl) dX7_readsMode_84 rfl m_X7_154 (n_readsWord (p := ap) (s0 := 0) (i := 8) (L := (500135195763)) hO hX hXg htl (by unfold wdK; decide +kernel) (by omega) (by omega) (by omega)) rfl rfl rfl ⟨by decide, by decide⟩ (Nat.le_of_ble_eq_true rfl) (by omega) (by omega) ?_
          rintro _ M10 ⟨rfl, hO7, hFw⟩
          dsimp only [Option.toList, List.cons_append, List.nil_append]
          have hX := hFw.at hX (by decide)
          have hO := hO7
          have hF := hF.tr hFw
          exact s_zret C dX7_readsMode_87 Tr rfl (mB_z _) ⟨by rw [hpo.2]; unfold mW0; by_cases e : mw g tl ap 8 0 (wdL 8) = wdL 8 <;> simp [e], ⟨1, by rw [hpo.1]; exact hO, fun hs => by rw [hpo.2]; rw [hpo.2] at hs; by_cases e : mW0 g tl ap 8 = wdL 8; (· rw [if_pos e]; rfl); rw [if_neg e] at hs; cases hs⟩, hF⟩
      · skip
        first | exact absurd z48 hc0 | (rw [hcv] at z48; exact absurd z48 (nI_ne (by decide) (by decide) (by decide)))
  · skip
    have hcv := z13
    refine s_iconst C 17 (nI 0) dX7_readsMode_16 rfl (by decide) ?_
    refine s_goto C 41 dX7_readsMode_17 (by decide) ?_
    refine s_putU C 44 dX7_readsMode_41 rfl p_X7_143 hO (by first | decide | omega) rfl rfl rfl (fs' := [.ref sa, .ref ha, .int (nI c), .ref xa, .int (nI tl), .ref ra, .ref la, .ref qa, .int (nI al), .ref ka, .int (nI rm), .ref pa, .int fs, .int fe, .ref za, .ref wa, .ref ua, .int (nI ap), .int cm, .int (nI 0), .int (nI be), .int (nI en)]) rfl (fun M11 U12 => ?_)
    have hX := U12.o hO hX (by first | decide | omega)
    have hF := hF.put U12 hO (by first | decide | (simp; done) | (simp; omega) | (simp [*]; done))
    have hO := U12.s
    refine s_aload_n C 45 dX7_readsMode_44 rfl rfl ?_
    refine s_iload_n C 46 dX7_readsMode_45 rfl rfl ?_
    refine s_bipush C 48 (nI 112) dX7_readsMode_46 rfl (by decide) ?_
    refine s_icmp_ne C 57 51 dX7_readsMode_48 (by decide) rfl (fun z48 => ?_) (fun z48 => ?_)
    · skip
      exact absurd hcv z48
    · skip
      refine s_ldc2 C 54 (1953653104) dX7_readsMode_51 rfl l_X7_146 ?_
      refine s_goto C 84 dX7_readsMode_54 (by decide) ?_
      have hpo := po_end (po_first (g := g) (n := tl) (p := ap) (i := 7) (k := 7) (fu := 4) (by omega) (by omega) (by omega) (fun j h1 h2 h3 => by have h4 : j = 8 ∨ j = 9 ∨ j = 10 := (by omega); rcases h4 with rfl | rfl | rfl <;> first | (rw [hcv]; exact nI_ne (by decide) (by decide) (by decide))))
      refine s_invV C 87 0 0 [] (mRv_of hO rfl) dX7_readsMode_84 rfl m_X7_154 (n_readsWord (p := ap) (s0 := 0) (i := 7) (L := (1953653104)) hO hX hXg htl (by unfold wdK; decide +kernel) (by omega) (by omega) (by omega)) rfl rfl rfl ⟨by decide, by decide⟩ (Nat.le_of_ble_eq_true rfl) (by omega) (by omega) ?_
      rintro _ M13 ⟨rfl, hO7, hFw⟩
      dsimp only [Option.toList, List.cons_append, List.nil_append]
      have hX := hFw.at hX (by decide)
      have hO := hO7
      have hF := hF.tr hFw
      exact s_zret C dX7_readsMode_87 Tr rfl (mB_z _) ⟨by rw [hpo.2]; unfold mW0; by_cases e : mw g tl ap 7 0 (wdL 7) = wdL 7 <;> simp [e], ⟨0, by rw [hpo.1]; exact hO, fun hs => by rw [hpo.2]; rw [hpo.2] at hs; by_cases e : mW0 g tl ap 7 = wdL 7; (· rw [if_pos e]; rfl); rw [if_neg e] at hs; cases hs⟩, hF⟩

set_option maxRecDepth 100000 in
set_option maxHeartbeats 4000000 in
theorem n_readsOrder {G : mG} {M : mM} {m sa ha c xa tl ra la qa al ka rm pa za wa ua ap nu be en : Nat} {fs fe cm : Int32} (hO : M m = some (300, .inl (8, nL sa ha c xa tl ra la qa al ka rm pa fs fe za wa ua ap cm nu be en))) {xt g : Nat → Int32} (hX : M xa = some (303, .inr (0, 80, .inl xt))) (hXg : ∀ k, k < tl → xt k = g k) (htl : tl ≤ 80) (hp : ap < 900) : CC G iX7_readsOrder 0 0 [.ref m] M (fun r M1 => r = some (.int (mB (po g tl ap 11 3 0).1.isSome)) ∧ (∃ nu1, M1 m = some (300, .inl (8, nL sa ha c xa tl ra la qa al ka rm pa fs fe za wa ua ((po g tl ap 11 3 0).2) cm nu1 be en)) ∧ ((po g tl ap 11 3 0).1.isSome = true → nu1 = (po g tl ap 11 3 0).1.getD 11 - 11)) ∧ mZ [300] M M1) := by
  refine CC.of rfl (Nat.le_of_ble_eq_true rfl) rfl (fun X C Tr => ?_)
  show V X 0 0 0 [some (.ref m), none] [] M
  have hF : mZ [300] M M := mZ.rf
  refine s_aload_n C 1 dX7_readsOrder_0 rfl rfl ?_
  refine s_aload_n C 2 dX7_readsOrder_1 rfl rfl ?_
  refine s_getf C 5 dX7_readsOrder_2 rfl f_X7_123 hO rfl ?_
  refine s_invV C 8 0 0 [] (mRv_of hO rfl) dX7_readsOrder_5 rfl m_X7_126 (n_typedAt hO hX hXg htl (p := ap) (by omega)) rfl rfl rfl ⟨by decide, by decide⟩ (Nat.le_of_ble_eq_true rfl) (by omega) (by omega) ?_
  rintro _ M1 ⟨rfl, rfl⟩
  dsimp only [Option.toList, List.cons_append, List.nil_append]
  refine s_istore_n C 9 dX7_readsOrder_8 rfl rfl rfl ?_
  dsimp only [List.set]
  refine s_aload_n C 10 dX7_readsOrder_9 rfl rfl ?_
  refine s_iload_n C 11 dX7_readsOrder_10 rfl rfl ?_
  refine s_bipush C 13 (nI 112) dX7_readsOrder_11 rfl (by decide) ?_
  refine s_icmp_ne C 20 16 dX7_readsOrder_13 (by decide) rfl (fun z13 => ?_) (fun z13 => ?_)
  · skip
    have hc0 := z13
    refine s_iload_n C 21 dX7_readsOrder_20 rfl rfl ?_
    refine s_bipush C 23 (nI 111) dX7_readsOrder_21 rfl (by decide) ?_
    refine s_icmp_ne C 30 26 dX7_readsOrder_23 (by decide) rfl (fun z23 => ?_) (fun z23 => ?_)
    · skip
      have hc1 := z23
      refine s_iconst C 31 (nI 2) dX7_readsOrder_30 rfl (by decide) ?_
      refine s_putU C 34 dX7_readsOrder_31 rfl p_X7_143 hO (by first | decide | omega) rfl rfl rfl (fs' := [.ref sa, .ref ha, .int (nI c), .ref xa, .int (nI tl), .ref ra, .ref la, .ref qa, .int (nI al), .ref ka, .int (nI rm), .ref pa, .int fs, .int fe, .ref za, .ref wa, .ref ua, .int (nI ap), .int cm, .int (nI 2), .int (nI be), .int (nI en)]) rfl (fun M2 U3 => ?_)
      have hX := U3.o hO hX (by first | decide | omega)
      have hF := hF.put U3 hO (by first | decide | (simp; done) | (simp; omega) | (simp [*]; done))
      have hO := U3.s
      refine s_aload_n C 35 dX7_readsOrder_34 rfl rfl ?_
      refine s_iload_n C 36 dX7_readsOrder_35 rfl rfl ?_
      refine s_bipush C 38 (nI 112) dX7_readsOrder_36 rfl (by decide) ?_
      refine s_icmp_ne C 47 41 dX7_readsOrder_38 (by decide) rfl (fun z38 => ?_) (fun z38 => ?_)
      · skip
        refine s_iload_n C 48 dX7_readsOrder_47 rfl rfl ?_
        refine s_bipush C 50 (nI 111) dX7_readsOrder_48 rfl (by decide) ?_
        refine s_icmp_ne C 59 53 dX7_readsOrder_50 (by decide) rfl (fun z50 => ?_) (fun z50 => ?_)
        · skip
          refine s_ldc2 C 62 (1701667182) dX7_readsOrder_59 rfl l_X7_162 ?_
          have hpo := po_end (po_first (g := g) (n := tl) (p := ap) (i := 13) (k := 11) (fu := 3) (by omega) (by omega) (by omega) (fun j h1 h2 h3 => by have h4 : j = 11 ∨ j = 12 := (by omega); rcases h4 with rfl | rfl <;> first | exact hc0 | exact hc1))
          refine s_invV C 65 0 0 [] (mRv_of hO rfl) dX7_readsOrder_62 rfl m_X7_154 (n_readsWord (p := ap) (s0 := 0) (i := 13) (L := (1701667182)) hO hX hXg htl (by unfold wdK; decide +kernel) (by omega) (by omega) (by omega)) rfl rfl rfl ⟨by decide, by decide⟩ (Nat.le_of_ble_eq_true rfl) (by omega) (by omega) ?_
          rintro _ M4 ⟨rfl, hO7, hFw⟩
          dsimp only [Option.toList, List.cons_append, List.nil_append]
          have hX := hFw.at hX (by decide)
          have hO := hO7
          have hF := hF.tr hFw
          exact s_zret C dX7_readsOrder_65 Tr rfl (mB_z _) ⟨by rw [hpo.2]; unfold mW0; by_cases e : mw g tl ap 13 0 (wdL 13) = wdL 13 <;> simp [e], ⟨2, by rw [hpo.1]; exact hO, fun hs => by rw [hpo.2]; rw [hpo.2] at hs; by_cases e : mW0 g tl ap 13 = wdL 13; (· rw [if_pos e]; rfl); rw [if_neg e] at hs; cases hs⟩, hF⟩
        · skip
          first | exact absurd z50 hc1 | (rw [hcv] at z50; exact absurd z50 (nI_ne (by decide) (by decide) (by decide)))
      · skip
        first | exact absurd z38 hc0 | (rw [hcv] at z38; exact absurd z38 (nI_ne (by decide) (by decide) (by decide)))
    · skip
      have hcv := z23
      refine s_iconst C 27 (nI 1) dX7_readsOrder_26 rfl (by decide) ?_
      refine s_goto C 31 dX7_readsOrder_27 (by decide) ?_
      refine s_putU C 34 dX7_readsOrder_31 rfl p_X7_143 hO (by first | decide | omega) rfl rfl rfl (fs' := [.ref sa, .ref ha, .int (nI c), .ref xa, .int (nI tl), .ref ra, .ref la, .ref qa, .int (nI al), .ref ka, .int (nI rm), .ref pa, .int fs, .int fe, .ref za, .ref wa, .ref ua, .int (nI ap), .int cm, .int (nI 1), .int (nI be), .int (nI en)]) rfl (fun M5 U6 => ?_)
      have hX := U6.o hO hX (by first | decide | omega)
      have hF := hF.put U6 hO (by first | decide | (simp; done) | (simp; omega) | (simp [*]; done))
      have hO := U6.s
      refine s_aload_n C 35 dX7_readsOrder_34 rfl rfl ?_
      refine s_iload_n C 36 dX7_readsOrder_35 rfl rfl ?_
      refine s_bipush C 38 (nI 112) dX7_readsOrder_36 rfl (by decide) ?_
      refine s_icmp_ne C 47 41 dX7_readsOrder_38 (by decide) rfl (fun z38 => ?_) (fun z38 => ?_)
      · skip
        refine s_iload_n C 48 dX7_readsOrder_47 rfl rfl ?_
        refine s_bipush C 50 (nI 111) dX7_readsOrder_48 rfl (by decide) ?_
        refine s_icmp_ne C 59 53 dX7_readsOrder_50 (by decide) rfl (fun z50 => ?_) (fun z50 => ?_)
        · skip
          exact absurd hcv z50
        · skip
          refine s_ldc2 C 56 (474148529775) dX7_readsOrder_53 rfl l_X7_160 ?_
          refine s_goto C 62 dX7_readsOrder_56 (by decide) ?_
          have hpo := po_end (po_first (g := g) (n := tl) (p := ap) (i := 12) (k := 11) (fu := 3) (by omega) (by omega) (by omega) (fun j h1 h2 h3 => by have h4 : j = 11 ∨ j = 13 := (by omega); rcases h4 with rfl | rfl <;> first | (rw [hcv]; exact nI_ne (by decide) (by decide) (by decide))))
          refine s_invV C 65 0 0 [] (mRv_of hO rfl) dX7_readsOrder_62 rfl m_X7_154 (n_readsWord (p := ap) (s0 := 0) (i := 12) (L := (474148529775)) hO hX hXg htl (by unfold wdK; decide +kernel) (by omega) (by omega) (by omega)) rfl rfl rfl ⟨by decide, by decide⟩ (Nat.le_of_ble_eq_true rfl) (by omega) (by omega) ?_
          rintro _ M7 ⟨rfl, hO7, hFw⟩
          dsimp only [Option.toList, List.cons_append, List.nil_append]
          have hX := hFw.at hX (by decide)
          have hO := hO7
          have hF := hF.tr hFw
          exact s_zret C dX7_readsOrder_65 Tr rfl (mB_z _) ⟨by rw [hpo.2]; unfold mW0; by_cases e : mw g tl ap 12 0 (wdL 12) = wdL 12 <;> simp [e], ⟨1, by rw [hpo.1]; exact hO, fun hs => by rw [hpo.2]; rw [hpo.2] at hs; by_cases e : mW0 g tl ap 12 = wdL 12; (· rw [if_pos e]; rfl); rw [if_neg e] at hs; cases hs⟩, hF⟩
      · skip
        first | exact absurd z38 hc0 | (rw [hcv] at z38; exact absurd z38 (nI_ne (by decide) (by decide) (by decide)))
  · skip
    have hcv := z13
    refine s_iconst C 17 (nI 0) dX7_readsOrder_16 rfl (by decide) ?_
    refine s_goto C 31 dX7_readsOrder_17 (by decide) ?_
    refine s_putU C 34 dX7_readsOrder_31 rfl p_X7_143 hO (by first | decide | omega) rfl rfl rfl (fs' := [.ref sa, .ref ha, .int (nI c), .ref xa, .int (nI tl), .ref ra, .ref la, .ref qa, .int (nI al), .ref ka, .int (nI rm), .ref pa, .int fs, .int fe, .ref za, .ref wa, .ref ua, .int (nI ap), .int cm, .int (nI 0), .int (nI be), .int (nI en)]) rfl (fun M8 U9 => ?_)
    have hX := U9.o hO hX (by first | decide | omega)
    have hF := hF.put U9 hO (by first | decide | (simp; done) | (simp; omega) | (simp [*]; done))
    have hO := U9.s
    refine s_aload_n C 35 dX7_readsOrder_34 rfl rfl ?_
    refine s_iload_n C 36 dX7_readsOrder_35 rfl rfl ?_
    refine s_bipush C 38 (nI 112) dX7_readsOrder_36 rfl (by decide) ?_
    refine s_icmp_ne C 47 41 dX7_readsOrder_38 (by decide) rfl (fun z38 => ?_) (fun z38 => ?_)
    · skip
      exact absurd hcv z38
    · skip
      refine s_ldc2 C 44 (435459026032) dX7_readsOrder_41 rfl l_X7_158 ?_
      refine s_goto C 62 dX7_readsOrder_44 (by decide) ?_
      have hpo := po_end (po_first (g := g) (n := tl) (p := ap) (i := 11) (k := 11) (fu := 3) (by omega) (by omega) (by omega) (fun j h1 h2 h3 => by have h4 : j = 12 ∨ j = 13 := (by omega); rcases h4 with rfl | rfl <;> first | (rw [hcv]; exact nI_ne (by decide) (by decide) (by decide))))
      refine s_invV C 65 0 0 [] (mRv_of hO rfl) dX7_readsOrder_62 rfl m_X7_154 (n_readsWord (p := ap) (s0 := 0) (i := 11) (L := (435459026032)) hO hX hXg htl (by unfold wdK; decide +kernel) (by omega) (by omega) (by omega)) rfl rfl rfl ⟨by decide, by decide⟩ (Nat.le_of_ble_eq_true rfl) (by omega) (by omega) ?_
      rintro _ M10 ⟨rfl, hO7, hFw⟩
      dsimp only [Option.toList, List.cons_append, List.nil_append]
      have hX := hFw.at hX (by decide)
      have hO := hO7
      have hF := hF.tr hFw
      exact s_zret C dX7_readsOrder_65 Tr rfl (mB_z _) ⟨by rw [hpo.2]; unfold mW0; by_cases e : mw g tl ap 11 0 (wdL 11) = wdL 11 <;> simp [e], ⟨0, by rw [hpo.1]; exact hO, fun hs => by rw [hpo.2]; rw [hpo.2] at hs; by_cases e : mW0 g tl ap 11 = wdL 11; (· rw [if_pos e]; rfl); rw [if_neg e] at hs; cases hs⟩, hF⟩
