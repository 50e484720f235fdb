/-! pure words: indices, the states of the class -/
def isIx (x : Int32) (T : Nat) : Bool := decide (¬ x < 0 ∧ ¬ nI T ≤ x)
theorem isIx_t {x : Int32} {T : Nat} (h : isIx x T = true) (hT : T < 2 ^ 31) : ∃ j, j < T ∧ x = nI j := by
  unfold isIx at h
  have h := of_decide_eq_true h
  obtain ⟨j, hj, e⟩ := nI_of h.1
  refine ⟨j, ?_, e⟩
  have := h.2
  rw [e, nI_leI hT hj] at this
  omega
theorem isIx_n {j T : Nat} (hj : j < T) (hT : T < 2 ^ 31) : isIx (nI j) T = true := by
  unfold isIx
  refine decide_eq_true ⟨nI_pos (by omega), ?_⟩
  rw [nI_leI hT (by omega)]
  omega
/-- the k-th initial -/
def iniF (f : Nat → Int32) (n k : Nat) : Int32 := match fnd (fun j => wsB f j && decide (wsN f j = k)) 0 n with
  | some j => f j
  | none => 0
theorem wsN_hit {f : Nat → Int32} : ∀ n k, k < wsN f n → ∃ j, j < n ∧ wsB f j = true ∧ wsN f j = k := by
  intro n
  induction n with
  | zero => intro k h; exact absurd h (Nat.not_lt_zero k)
  | succ n ih =>
    intro k h
    by_cases e : k < wsN f n
    · obtain ⟨j, h1, h2⟩ := ih k e
      exact ⟨j, by omega, h2⟩
    · rw [wsN] at h
      by_cases hw : wsB f n = true
      · rw [if_pos hw] at h
        exact ⟨n, by omega, hw, by omega⟩
      · rw [if_neg hw] at h
        omega
theorem iniF_at {f : Nat → Int32} {n j : Nat} (hj : j < n) (hw : wsB f j = true) : iniF f n (wsN f j) = f j := by
  unfold iniF
  have : fnd (fun i => wsB f i && decide (wsN f i = wsN f j)) 0 n = some j := by
    refine (fnd_some n 0 j).mpr ⟨Nat.zero_le _, by omega, by simp [hw], fun y _ hy => ?_⟩
    by_cases hwy : wsB f y = true
    · have := wsN_lt hy hwy
      have : wsN f y ≠ wsN f j := by omega
      simp [this]
    · simp [hwy]
  rw [this]
theorem inT_iniF {f ini : Nat → Int32} {n k : Nat} (h : inT f ini n) (hk : k < wsN f n) : ini k = iniF f n k := by
  obtain ⟨j, h1, h2, h3⟩ := wsN_hit n k hk
  rw [← h3, h j h1 h2, iniF_at h1 h2]
/-- a title's letters are a title -/
def okC (c : Int32) : Prop := c = nI 32 ∨ (nI 97 ≤ c ∧ c ≤ nI 122) ∨ (nI 48 ≤ c ∧ c ≤ nI 57)
def TV (n : Nat) (f : Nat → Int32) : Prop := 1 ≤ n ∧ n ≤ 24 ∧ f 0 ≠ nI 32 ∧ f (n - 1) ≠ nI 32 ∧ (∀ k, k + 1 < n → f k = nI 32 → f (k + 1) ≠ nI 32) ∧ ∀ k, k < n → okC (f k)
theorem TV.im {n : Nat} {f : Nat → Int32} (h : TV n f) : wsN f n = 1 + cnB f n := by
  obtain ⟨h1, -, -, h4, -⟩ := h
  cases n with
  | zero => omega
  | succ n =>
    have h4 : f n ≠ nI 32 := h4
    rw [wsN_cnB, cnB, if_neg h4]
    omega
/-- a title that is there already -/
def dupB (T : Nat) (ln : Nat → Nat) (fl : Nat → Nat → Int32) (g : Nat → Int32) (n2 : Nat) : Bool := decide (∃ t, t < T ∧ eqT (fl t) g (ln t) n2 = true)
def qeB (ql : Nat) (q : Nat → Int32) : Bool := decide (0 < ql ∧ q (ql - 1) ≠ nI 32)
/-- how many characters of the query count -/
def qcN (ql : Nat) (q : Nat → Int32) : Nat := if qeB ql q = true then ql else ql - 1
/-- the place of the match -/
def pmO (mo ql : Nat) (q : Nat → Int32) (n : Nat) (f : Nat → Int32) : Option Nat := if qcN ql q = 0 then some 0 else plc mo n (1 + cnB f n) f (iniF f n) q (qcN ql q)
/-- which of two results comes before the other -/
def cbB (od i pi j pj : Nat) (ln : Nat → Nat) (fl : Nat → Nat → Int32) (us : Nat → Int32) : Bool :=
  if od = 2 then nb (fl i) (fl j) (ln i) (ln j) 0 (ln i) else if od = 1 ∧ us i ≠ us j then decide (us j < us i) else if pi ≠ pj then decide (pi < pj) else if ln i ≠ ln j then decide (ln i < ln j) else decide (i < j)
theorem mtB_cong {q r r' : Nat → Int32} {len p N : Nat} (h : ∀ k, k < N → r k = r' k) (hp : p + len ≤ N) : mtB q r len p = mtB q r' len p := by
  unfold mtB
  have : (∀ x, x < len → q x = r (p + x)) ↔ (∀ x, x < len → q x = r' (p + x)) := ⟨fun g x hx => by rw [← h (p + x) (by omega)]; exact g x hx, fun g x hx => by rw [h (p + x) (by omega)]; exact g x hx⟩
  exact decide_eq_decide.mpr this
/-- the initials' row may be any that holds them -/
theorem plc_ini {mo n : Nat} {f ini q : Nat → Int32} {len : Nat} (hv : TV n f) (h : inT f ini n) : plc mo n (1 + cnB f n) f ini q len = plc mo n (1 + cnB f n) f (iniF f n) q len := by
  unfold plc
  refine fnd_cong _ _ (fun p _ hp => ?_)
  have e : mtB q (rG mo f ini) len p = mtB q (rG mo f (iniF f n)) len p := by
    refine mtB_cong (N := rN mo n (1 + cnB f n)) (fun k hk => ?_) (by omega)
    unfold rG
    unfold rN at hk
    split
    · rename_i hm
      rw [if_pos hm, ← hv.im] at hk
      exact inT_iniF h hk
    · rfl
  simp only [e]
/-- a State's cells (number k): its object, its list, the titles in it, its query -/
def sR (G : mG) (M : mM) (k s T mo od ql : Nat) (q : Nat → Int32) (ln : Nat → Nat) (fl : Nat → Nat → Int32) (us : Nat → Int32) : Prop := ∃ (la qa cap : Nat) (g : Nat → Option Nat) (ad : Nat → Nat) (ifn : Nat → Nat → Int32), M s = some (100 + 10 * k, .inl (3, [.ref la, .ref qa, .int (nI ql), .int (nI mo), .int (nI od)])) ∧ lR G M (101 + 10 * k) (102 + 10 * k) la T cap g ∧ M qa = some (103 + 10 * k, .inr (1, 24, .inl q)) ∧ T ≤ 16 ∧ mo < 4 ∧ od < 3 ∧ ql ≤ 24 ∧ ∀ t, t < T → g t = some (ad t) ∧ tR M (ad t) (ln t) (fl t) (1 + cnB (fl t) (ln t)) (ifn t) (us t) ∧ inT (fl t) (ifn t) (ln t) ∧ TV (ln t) (fl t)
theorem sR.at {G : mG} {Ts : List Nat} {M M1 : mM} {k s T mo od ql : Nat} {q : Nat → Int32} {ln : Nat → Nat} {fl : Nat → Nat → Int32} {us : Nat → Int32} (hF : mZ Ts M M1) (h0 : 0 ∉ Ts) (h1 : 1 ∉ Ts) (hk0 : 100 + 10 * k ∉ Ts) (hk1 : 101 + 10 * k ∉ Ts) (hk2 : 102 + 10 * k ∉ Ts) (hk3 : 103 + 10 * k ∉ Ts) (h : sR G M k s T mo od ql q ln fl us) : sR G M1 k s T mo od ql q ln fl us := by
  obtain ⟨la, qa, cap, g, ad, ifn, g1, g2, g3, g4, g5, g6, g7, g8⟩ := h
  exact ⟨la, qa, cap, g, ad, ifn, hF.at g1 hk0, g2.at hF hk1 hk2 h0, hF.at g3 hk3, g4, g5, g6, g7, fun t ht => ⟨(g8 t ht).1, (g8 t ht).2.1.at hF h1, (g8 t ht).2.2⟩⟩
theorem lR_rv {G : mG} {M : mM} {tl te a n cap : Nat} {g : Nat → Option Nat} (h : lR G M tl te a n cap g) : mRv G M RJx4a65c a := by
  obtain ⟨mc, e, tE, h1, -⟩ := h
  exact mRv_of h1 rfl
set_option maxRecDepth 100000 in
set_option maxHeartbeats 4000000 in
/-- State.has -/
theorem c_has {G : mG} {M : mM} {k s T mo od ql : Nat} {q : Nat → Int32} {ln : Nat → Nat} {fl : Nat → Nat → Int32} {us : Nat → Int32} (h : sR G M k s T mo od ql q ln fl us) {x : Int32} : CC G iX2_has 0 0 [.ref s, .int x] M (fun r M1 => r = some (.int (mB (isIx x T))) ∧ M = M1) := by
  refine CC.of rfl (Nat.le_of_ble_eq_true rfl) rfl (fun X C Tr => ?_)
  show V X 0 0 0 [some (.ref s), some (.int x)] [] M
  obtain ⟨la, qa, cap, g, ad, ifn, hS, hL, hQ, hT, hmo, hod, hql, hA⟩ := h
  refine s_iload_n C 1 dX2_has_0 rfl rfl ?_
  refine s_if_lt C 19 4 dX2_has_1 (by decide) rfl (fun z1 => ?_) (fun z1 => ?_)
  · skip
    refine s_iconst C 20 (nI 0) dX2_has_19 rfl (by decide) ?_
    exact s_zret C dX2_has_20 Tr rfl (by decide) ⟨rF (by simp [isIx, *]), rfl⟩
  · skip
    refine s_iload_n C 5 dX2_has_4 rfl rfl ?_
    refine s_aload_n C 6 dX2_has_5 rfl rfl ?_
    refine s_getf C 9 dX2_has_6 rfl f_X2_12 hS rfl ?_
    refine s_invV C 12 0 0 [.int x] (lR_rv hL) dX2_has_9 rfl m_X2_25 (c_size hL) rfl rfl rfl ⟨by decide, by decide⟩ (Nat.le_of_ble_eq_true rfl) (by omega) (by omega) ?_
    rintro _ M1 ⟨rfl, rfl⟩
    dsimp only [Option.toList, List.cons_append, List.nil_append]
    refine s_icmp_ge C 19 15 dX2_has_12 (by decide) rfl (fun z12 => ?_) (fun z12 => ?_)
    · skip
      refine s_iconst C 20 (nI 0) dX2_has_19 rfl (by decide) ?_
      exact s_zret C dX2_has_20 Tr rfl (by decide) ⟨rF (by simp [isIx, *]), rfl⟩
    · skip
      refine s_iconst C 16 (nI 1) dX2_has_15 rfl (by decide) ?_
      refine s_goto C 20 dX2_has_16 (by decide) ?_
      exact s_zret C dX2_has_20 Tr rfl (by decide) ⟨rT (by simp [isIx, *]), rfl⟩

set_option maxRecDepth 100000 in
set_option maxHeartbeats 4000000 in
/-- State.refusal -/
theorem c_refusal {G : mG} {M : mM} {k s T mo od ql : Nat} {q : Nat → Int32} {ln : Nat → Nat} {fl : Nat → Nat → Int32} {us : Nat → Int32} (h : sR G M k s T mo od ql q ln fl us) {b lb ib n2 m2 : Nat} {g2 i2 : Nat → Int32} {u2 : Int32} (hOb : M b = some (1, .inl (6, [.ref lb, .ref ib, .int u2]))) (hLb : M lb = some (1, .inr (1, n2, .inl g2))) (hIb : M ib = some (1, .inr (1, m2, .inl i2))) (hn2 : n2 ≤ 24) : CC G iX2_refusal 0 0 [.ref s, .ref b] M (fun r M1 => r = some (.int (if dupB T ln fl g2 n2 = true then -3 else if 16 ≤ T then -4 else nI 0)) ∧ M = M1) := by
  refine CC.of rfl (Nat.le_of_ble_eq_true rfl) rfl (fun X C Tr => ?_)
  show V X 0 0 0 [some (.ref s), some (.ref b), none] [] M
  obtain ⟨la, qa, cap, g, ad, ifn, hS, hL, hQ, hT, hmo, hod, hql, hA⟩ := h
  refine s_iconst C 1 (nI 0) dX2_refusal_0 rfl (by decide) ?_
  refine s_istore_n C 2 dX2_refusal_1 rfl rfl rfl ?_
  dsimp only [List.set]
  suffices lp2 : ∀ (fu2 : Nat) (t : Nat), T - t < fu2 → t ≤ T → (∀ j, j < t → eqT (fl j) g2 (ln j) n2 = false) → V X 0 0 2 [some (.ref s), some (.ref b), some (.int (nI t))] [] M from lp2 (T + 1) 0 (by omega) (by omega) (fun j hj => by omega)
  intro fu2
  induction fu2 with
  | zero => intro t ht0 ht hd; omega
  | succ fu2 ih2 =>
    intro t ht0 ht hd
    refine s_iload_n C 3 dX2_refusal_2 rfl rfl ?_
    refine s_aload_n C 4 dX2_refusal_3 rfl rfl ?_
    refine s_getf C 7 dX2_refusal_4 rfl f_X2_12 hS rfl ?_
    refine s_invV C 10 0 0 [.int (nI t)] (lR_rv hL) dX2_refusal_7 rfl m_X2_25 (c_size hL) rfl rfl rfl ⟨by decide, by decide⟩ (Nat.le_of_ble_eq_true rfl) (by omega) (by omega) ?_
    rintro _ M1 ⟨rfl, rfl⟩
    dsimp only [Option.toList, List.cons_append, List.nil_append]
    refine s_icmp_geN C 40 13 dX2_refusal_10 (by decide) rfl (by omega) (by omega) (fun z10 => ?_) (fun z10 => ?_)
    · skip
      have hz : dupB T ln fl g2 n2 = false := by unfold dupB; refine decide_eq_false ?_; rintro ⟨j, hj, e⟩; rw [hd j (by omega)] at e; cases e
      refine s_aload_n C 41 dX2_refusal_40 rfl rfl ?_
      refine s_getf C 44 dX2_refusal_41 rfl f_X2_12 hS rfl ?_
      refine s_invV C 47 0 0 [] (lR_rv hL) dX2_refusal_44 rfl m_X2_25 (c_size hL) rfl rfl rfl ⟨by decide, by decide⟩ (Nat.le_of_ble_eq_true rfl) (by omega) (by omega) ?_
      rintro _ M2 ⟨rfl, rfl⟩
      dsimp only [Option.toList, List.cons_append, List.nil_append]
      refine s_bipush C 49 (nI 16) dX2_refusal_47 rfl (by decide) ?_
      refine s_icmp_ltN C 57 52 dX2_refusal_49 (by decide) rfl (by omega) (by omega) (fun z49 => ?_) (fun z49 => ?_)
      · skip
        refine s_iconst C 58 (nI 0) dX2_refusal_57 rfl (by decide) ?_
        exact s_iret C dX2_refusal_58 Tr rfl ⟨by simp [hz, *] <;> first | rfl | omega, rfl⟩
      · skip
        refine s_bipush C 54 (-4) dX2_refusal_52 rfl (by decide) ?_
        refine s_goto C 58 dX2_refusal_54 (by decide) ?_
        exact s_iret C dX2_refusal_58 Tr rfl ⟨by simp [hz, *] <;> first | rfl | omega, rfl⟩
    · skip
      refine s_aload_n C 14 dX2_refusal_13 rfl rfl ?_
      refine s_getf C 17 dX2_refusal_14 rfl f_X2_12 hS rfl ?_
      refine s_iload_n C 18 dX2_refusal_17 rfl rfl ?_
      refine s_invV C 21 0 0 [] (lR_rv hL) dX2_refusal_18 rfl m_X2_29 (c_get (i := t) hL (by omega) (hA t (by omega)).1) rfl rfl rfl ⟨by decide, by decide⟩ (Nat.le_of_ble_eq_true rfl) (by omega) (by omega) ?_
      rintro _ M3 ⟨rfl, rfl⟩
      dsimp only [Option.toList, List.cons_append, List.nil_append]
      obtain ⟨la, ia, hOa, hLa, hIa⟩ := (hA t (by omega)).2.1
      have hVa := (hA t (by omega)).2.2.2
      have hna : ln t ≤ 24 := hVa.2.1
      have hca := cnB_le (f := fl t) (ln t)
      refine s_castT C 24 dX2_refusal_21 rfl hOa rfl k_X2_33 ?_
      refine s_aload_n C 25 dX2_refusal_24 rfl rfl ?_
      refine s_invV C 28 0 0 [] (mRv_of hOa rfl) dX2_refusal_25 rfl m_X2_49 (c_hasLettersOf hOa hLa hIa hOb hLb hIb (by omega) (by omega)) rfl rfl rfl ⟨by decide, by decide⟩ (Nat.le_of_ble_eq_true rfl) (by omega) (by omega) ?_
      rintro _ M4 ⟨rfl, rfl⟩
      dsimp only [Option.toList, List.cons_append, List.nil_append]
      refine s_if_eqB C 34 31 dX2_refusal_28 (by decide) rfl (fun z28 => ?_) (fun z28 => ?_)
      · skip
        refine s_iinc C 37 (nI (t + 1)) dX2_refusal_34 rfl rfl (by rw [← nI_add]; rfl) rfl ?_
        dsimp only [List.set]
        refine s_goto C 2 dX2_refusal_37 (by decide) ?_
        exact ih2 (t + 1) (by omega) (by omega) (fun j hj => by by_cases e : j = t; (· rw [e]; exact z28); exact hd j (by omega))
      · skip
        have hz : dupB T ln fl g2 n2 = true := by unfold dupB; exact decide_eq_true ⟨t, z10, z28⟩
        refine s_bipush C 33 (-3) dX2_refusal_31 rfl (by decide) ?_
        exact s_iret C dX2_refusal_33 Tr rfl ⟨by rw [hz]; rfl, rfl⟩

set_option maxRecDepth 100000 in
set_option maxHeartbeats 4000000 in
/-- State.queryEndsWithLetter -/
theorem c_ends {G : mG} {M : mM} {k s T mo od ql : Nat} {q : Nat → Int32} {ln : Nat → Nat} {fl : Nat → Nat → Int32} {us : Nat → Int32} (h : sR G M k s T mo od ql q ln fl us) : CC G iX2_queryEndsWithLetter 0 0 [.ref s] M (fun r M1 => r = some (.int (mB (qeB ql q))) ∧ M = M1) := by
  refine CC.of rfl (Nat.le_of_ble_eq_true rfl) rfl (fun X C Tr => ?_)
  show V X 0 0 0 [some (.ref s)] [] M
  obtain ⟨la, qa, cap, g, ad, ifn, hS, hL, hQ, hT, hmo, hod, hql, hA⟩ := h
  refine s_aload_n C 1 dX2_queryEndsWithLetter_0 rfl rfl ?_
  refine s_getf C 4 dX2_queryEndsWithLetter_1 rfl f_X2_39 hS rfl ?_
  refine s_if_leN C 39 7 dX2_queryEndsWithLetter_4 (by decide) rfl (by omega) (fun z4 => ?_) (fun z4 => ?_)
  · skip
    have hz : qeB ql q = false := by simp [qeB, z4]
    refine s_iconst C 40 (nI 0) dX2_queryEndsWithLetter_39 rfl (by decide) ?_
    exact s_zret C dX2_queryEndsWithLetter_40 Tr rfl (by decide) ⟨rF hz, rfl⟩
  · skip
    refine s_aload_n C 8 dX2_queryEndsWithLetter_7 rfl rfl ?_
    refine s_getf C 11 dX2_queryEndsWithLetter_8 rfl f_X2_39 hS rfl ?_
    refine s_aload_n C 12 dX2_queryEndsWithLetter_11 rfl rfl ?_
    refine s_getf C 15 dX2_queryEndsWithLetter_12 rfl f_X2_18 hS rfl ?_
    refine s_alen C 16 dX2_queryEndsWithLetter_15 rfl hQ (by decide) ?_
    refine s_icmp_gtN C 39 19 dX2_queryEndsWithLetter_16 (by decide) rfl (by omega) (by omega) (fun z16 => ?_) (fun z16 => ?_)
    · skip
      omega
    · skip
      refine s_aload_n C 20 dX2_queryEndsWithLetter_19 rfl rfl ?_
      refine s_getf C 23 dX2_queryEndsWithLetter_20 rfl f_X2_18 hS rfl ?_
      refine s_aload_n C 24 dX2_queryEndsWithLetter_23 rfl rfl ?_
      refine s_getf C 27 dX2_queryEndsWithLetter_24 rfl f_X2_39 hS rfl ?_
      refine s_iconst C 28 (nI 1) dX2_queryEndsWithLetter_27 rfl (by decide) ?_
      refine s_isubN C 29 dX2_queryEndsWithLetter_28 rfl (by omega) ?_
      refine s_cald C 30 dX2_queryEndsWithLetter_29 rfl hQ (by omega) (by omega) ?_
      refine s_bipush C 32 (nI 32) dX2_queryEndsWithLetter_30 rfl (by decide) ?_
      refine s_icmp_eq C 39 35 dX2_queryEndsWithLetter_32 (by decide) rfl (fun z32 => ?_) (fun z32 => ?_)
      · skip
        have hz : qeB ql q = false := by simp [qeB, z32]
        refine s_iconst C 40 (nI 0) dX2_queryEndsWithLetter_39 rfl (by decide) ?_
        exact s_zret C dX2_queryEndsWithLetter_40 Tr rfl (by decide) ⟨rF hz, rfl⟩
      · skip
        have hz : qeB ql q = true := by simp [qeB, z32]; omega
        refine s_iconst C 36 (nI 1) dX2_queryEndsWithLetter_35 rfl (by decide) ?_
        refine s_goto C 40 dX2_queryEndsWithLetter_36 (by decide) ?_
        exact s_zret C dX2_queryEndsWithLetter_40 Tr rfl (by decide) ⟨rT hz, rfl⟩

set_option maxRecDepth 100000 in
set_option maxHeartbeats 4000000 in
/-- State.placeOfMatch -/
theorem c_placeOfMatch {G : mG} {M : mM} {k s T mo od ql : Nat} {q : Nat → Int32} {ln : Nat → Nat} {fl : Nat → Nat → Int32} {us : Nat → Int32} (h : sR G M k s T mo od ql q ln fl us) {t : Nat} (ht : t < T) : CC G iX2_placeOfMatch 0 0 [.ref s, .int (nI t)] M (fun r M1 => r = some (.int (oI (pmO mo ql q (ln t) (fl t)))) ∧ M = M1) := by
  refine CC.of rfl (Nat.le_of_ble_eq_true rfl) rfl (fun X C Tr => ?_)
  show V X 0 0 0 [some (.ref s), some (.int (nI t)), none] [] M
  obtain ⟨la, qa, cap, g, ad, ifn, hS, hL, hQ, hT, hmo, hod, hql, hA⟩ := h
  refine s_aload_n C 1 dX2_placeOfMatch_0 rfl rfl ?_
  refine s_invV C 4 0 0 [] (mRv_of hS rfl) dX2_placeOfMatch_1 rfl m_X2_53 (c_ends ⟨la, qa, cap, g, ad, ifn, hS, hL, hQ, hT, hmo, hod, hql, hA⟩) rfl rfl rfl ⟨by decide, by decide⟩ (Nat.le_of_ble_eq_true rfl) (by omega) (by omega) ?_
  rintro _ M1 ⟨rfl, rfl⟩
  dsimp only [Option.toList, List.cons_append, List.nil_append]
  refine s_if_eqB C 14 7 dX2_placeOfMatch_4 (by decide) rfl (fun z4 => ?_) (fun z4 => ?_)
  · skip
    have hz : qcN ql q = ql - 1 := by unfold qcN; rw [if_neg (by rw [z4]; decide)]
    by_cases hq0 : ql = 0
    · subst hq0
      refine s_aload_n C 15 dX2_placeOfMatch_14 rfl rfl ?_
      refine s_getf C 18 dX2_placeOfMatch_15 rfl f_X2_39 hS rfl ?_
      refine s_iconst C 19 (nI 1) dX2_placeOfMatch_18 rfl (by decide) ?_
      refine s_isub C 20 dX2_placeOfMatch_19 rfl ?_
      refine s_istore_n C 21 dX2_placeOfMatch_20 rfl rfl rfl ?_
      dsimp only [List.set]
      refine s_iload_n C 22 dX2_placeOfMatch_21 rfl rfl ?_
      refine s_if_gt C 29 25 dX2_placeOfMatch_22 (by decide) rfl (fun z22 => ?_) (fun z22 => ?_)
      · skip
        exact absurd z22 (by decide)
      · skip
        have hp : pmO mo 0 q (ln t) (fl t) = some 0 := by unfold pmO; rw [if_pos hz]
        refine s_iconst C 26 (nI 0) dX2_placeOfMatch_25 rfl (by decide) ?_
        refine s_goto C 52 dX2_placeOfMatch_26 (by decide) ?_
        exact s_iret C dX2_placeOfMatch_52 Tr rfl ⟨by rw [hp]; rfl, rfl⟩
    refine s_aload_n C 15 dX2_placeOfMatch_14 rfl rfl ?_
    refine s_getf C 18 dX2_placeOfMatch_15 rfl f_X2_39 hS rfl ?_
    refine s_iconst C 19 (nI 1) dX2_placeOfMatch_18 rfl (by decide) ?_
    refine s_isubN C 20 dX2_placeOfMatch_19 rfl (by omega) ?_
    refine s_istore_n C 21 dX2_placeOfMatch_20 rfl rfl rfl ?_
    dsimp only [List.set]
    refine s_iload_n C 22 dX2_placeOfMatch_21 rfl rfl ?_
    refine s_if_gtN C 29 25 dX2_placeOfMatch_22 (by decide) rfl (by omega) (fun z22 => ?_) (fun z22 => ?_)
    · skip
      have hp : pmO mo ql q (ln t) (fl t) = plc mo (ln t) (1 + cnB (fl t) (ln t)) (fl t) (iniF (fl t) (ln t)) q (ql - 1) := by unfold pmO; rw [if_neg (by omega), hz]
      refine s_aload_n C 30 dX2_placeOfMatch_29 rfl rfl ?_
      refine s_getf C 33 dX2_placeOfMatch_30 rfl f_X2_12 hS rfl ?_
      refine s_iload_n C 34 dX2_placeOfMatch_33 rfl rfl ?_
      refine s_invV C 37 0 0 [] (lR_rv hL) dX2_placeOfMatch_34 rfl m_X2_29 (c_get (i := t) hL (by omega) (hA t (by omega)).1) rfl rfl rfl ⟨by decide, by decide⟩ (Nat.le_of_ble_eq_true rfl) (by omega) (by omega) ?_
      rintro _ M2 ⟨rfl, rfl⟩
      dsimp only [Option.toList, List.cons_append, List.nil_append]
      obtain ⟨la, ia, hOa, hLa, hIa⟩ := (hA t (by omega)).2.1
      have hVa := (hA t (by omega)).2.2.2
      have hna : ln t ≤ 24 := hVa.2.1
      have hca := cnB_le (f := fl t) (ln t)
      refine s_castT C 40 dX2_placeOfMatch_37 rfl hOa rfl k_X2_33 ?_
      refine s_aload_n C 41 dX2_placeOfMatch_40 rfl rfl ?_
      refine s_getf C 44 dX2_placeOfMatch_41 rfl f_X2_18 hS rfl ?_
      refine s_iload_n C 45 dX2_placeOfMatch_44 rfl rfl ?_
      refine s_aload_n C 46 dX2_placeOfMatch_45 rfl rfl ?_
      refine s_getf C 49 dX2_placeOfMatch_46 rfl f_X2_43 hS rfl ?_
      refine s_invV C 52 0 0 [] (mRv_of hOa rfl) dX2_placeOfMatch_49 rfl m_X2_57 (c_placeOf hOa hLa hIa hQ (by omega) (by omega) (by omega) (by omega) (by omega)) rfl rfl rfl ⟨by decide, by decide⟩ (Nat.le_of_ble_eq_true rfl) (by omega) (by omega) ?_
      rintro _ M3 ⟨rfl, rfl⟩
      dsimp only [Option.toList, List.cons_append, List.nil_append]
      exact s_iret C dX2_placeOfMatch_52 Tr rfl ⟨by rw [hp, plc_ini hVa (hA t ht).2.2.1], rfl⟩
    · skip
      have hp : pmO mo ql q (ln t) (fl t) = some 0 := by unfold pmO; rw [if_pos (by omega)]
      refine s_iconst C 26 (nI 0) dX2_placeOfMatch_25 rfl (by decide) ?_
      refine s_goto C 52 dX2_placeOfMatch_26 (by decide) ?_
      exact s_iret C dX2_placeOfMatch_52 Tr rfl ⟨by rw [hp]; rfl, rfl⟩
  · skip
    have hz : qcN ql q = ql := by unfold qcN; rw [if_pos z4]
    have hq0 : 0 < ql := by have := of_decide_eq_true z4; exact this.1
    refine s_aload_n C 8 dX2_placeOfMatch_7 rfl rfl ?_
    refine s_getf C 11 dX2_placeOfMatch_8 rfl f_X2_39 hS rfl ?_
    refine s_goto C 20 dX2_placeOfMatch_11 (by decide) ?_
    refine s_istore_n C 21 dX2_placeOfMatch_20 rfl rfl rfl ?_
    dsimp only [List.set]
    refine s_iload_n C 22 dX2_placeOfMatch_21 rfl rfl ?_
    refine s_if_gtN C 29 25 dX2_placeOfMatch_22 (by decide) rfl (by omega) (fun z22 => ?_) (fun z22 => ?_)
    · skip
      have hp : pmO mo ql q (ln t) (fl t) = plc mo (ln t) (1 + cnB (fl t) (ln t)) (fl t) (iniF (fl t) (ln t)) q ql := by unfold pmO; rw [if_neg (by omega), hz]
      refine s_aload_n C 30 dX2_placeOfMatch_29 rfl rfl ?_
      refine s_getf C 33 dX2_placeOfMatch_30 rfl f_X2_12 hS rfl ?_
      refine s_iload_n C 34 dX2_placeOfMatch_33 rfl rfl ?_
      refine s_invV C 37 0 0 [] (lR_rv hL) dX2_placeOfMatch_34 rfl m_X2_29 (c_get (i := t) hL (by omega) (hA t (by omega)).1) rfl rfl rfl ⟨by decide, by decide⟩ (Nat.le_of_ble_eq_true rfl) (by omega) (by omega) ?_
      rintro _ M4 ⟨rfl, rfl⟩
      dsimp only [Option.toList, List.cons_append, List.nil_append]
      obtain ⟨la, ia, hOa, hLa, hIa⟩ := (hA t (by omega)).2.1
      have hVa := (hA t (by omega)).2.2.2
      have hna : ln t ≤ 24 := hVa.2.1
      have hca := cnB_le (f := fl t) (ln t)
      refine s_castT C 40 dX2_placeOfMatch_37 rfl hOa rfl k_X2_33 ?_
      refine s_aload_n C 41 dX2_placeOfMatch_40 rfl rfl ?_
      refine s_getf C 44 dX2_placeOfMatch_41 rfl f_X2_18 hS rfl ?_
      refine s_iload_n C 45 dX2_placeOfMatch_44 rfl rfl ?_
      refine s_aload_n C 46 dX2_placeOfMatch_45 rfl rfl ?_
      refine s_getf C 49 dX2_placeOfMatch_46 rfl f_X2_43 hS rfl ?_
      refine s_invV C 52 0 0 [] (mRv_of hOa rfl) dX2_placeOfMatch_49 rfl m_X2_57 (c_placeOf hOa hLa hIa hQ (by omega) (by omega) (by omega) (by omega) (by omega)) rfl rfl rfl ⟨by decide, by decide⟩ (Nat.le_of_ble_eq_true rfl) (by omega) (by omega) ?_
      rintro _ M5 ⟨rfl, rfl⟩
      dsimp only [Option.toList, List.cons_append, List.nil_append]
      exact s_iret C dX2_placeOfMatch_52 Tr rfl ⟨by rw [hp, plc_ini hVa (hA t ht).2.2.1], rfl⟩
    · skip
      omega

set_option maxRecDepth 100000 in
set_option maxHeartbeats 4000000 in
/-- State.comesBefore -/
theorem c_comesBefore {G : mG} {M : mM} {k s T mo od ql : Nat} {q : Nat → Int32} {ln : Nat → Nat} {fl : Nat → Nat → Int32} {us : Nat → Int32} (h : sR G M k s T mo od ql q ln fl us) {i p1 j p2 : Nat} (hi : i < T) (hj : j < T) (hp1 : p1 < 1000) (hp2 : p2 < 1000) : CC G iX2_comesBefore 0 0 [.ref s, .int (nI i), .int (nI p1), .int (nI j), .int (nI p2)] M (fun r M1 => r = some (.int (mB (cbB od i p1 j p2 ln fl us))) ∧ M = M1) := by
  refine CC.of rfl (Nat.le_of_ble_eq_true rfl) rfl (fun X C Tr => ?_)
  show V X 0 0 0 [some (.ref s), some (.int (nI i)), some (.int (nI p1)), some (.int (nI j)), some (.int (nI p2)), none, none] [] M
  obtain ⟨la, qa, cap, g, ad, ifn, hS, hL, hQ, hT, hmo, hod, hql, hA⟩ := h
  refine s_aload_n C 1 dX2_comesBefore_0 rfl rfl ?_
  refine s_getf C 4 dX2_comesBefore_1 rfl f_X2_12 hS rfl ?_
  refine s_iload_n C 5 dX2_comesBefore_4 rfl rfl ?_
  refine s_invV C 8 0 0 [] (lR_rv hL) dX2_comesBefore_5 rfl m_X2_29 (c_get (i := i) hL (by omega) (hA i (by omega)).1) rfl rfl rfl ⟨by decide, by decide⟩ (Nat.le_of_ble_eq_true rfl) (by omega) (by omega) ?_
  rintro _ M1 ⟨rfl, rfl⟩
  dsimp only [Option.toList, List.cons_append, List.nil_append]
  obtain ⟨la, ia, hOa, hLa, hIa⟩ := (hA i (by omega)).2.1
  have hVa := (hA i (by omega)).2.2.2
  have hna : ln i ≤ 24 := hVa.2.1
  have hca := cnB_le (f := fl i) (ln i)
  refine s_castT C 11 dX2_comesBefore_8 rfl hOa rfl k_X2_33 ?_
  refine s_astore C 13 dX2_comesBefore_11 rfl rfl rfl ?_
  dsimp only [List.set]
  refine s_aload_n C 14 dX2_comesBefore_13 rfl rfl ?_
  refine s_getf C 17 dX2_comesBefore_14 rfl f_X2_12 hS rfl ?_
  refine s_iload_n C 18 dX2_comesBefore_17 rfl rfl ?_
  refine s_invV C 21 0 0 [] (lR_rv hL) dX2_comesBefore_18 rfl m_X2_29 (c_get (i := j) hL (by omega) (hA j (by omega)).1) rfl rfl rfl ⟨by decide, by decide⟩ (Nat.le_of_ble_eq_true rfl) (by omega) (by omega) ?_
  rintro _ M2 ⟨rfl, rfl⟩
  dsimp only [Option.toList, List.cons_append, List.nil_append]
  obtain ⟨lb, ib, hOb, hLb, hIb⟩ := (hA j (by omega)).2.1
  have hVb := (hA j (by omega)).2.2.2
  have hnb : ln j ≤ 24 := hVb.2.1
  have hcb := cnB_le (f := fl j) (ln j)
  refine s_castT C 24 dX2_comesBefore_21 rfl hOb rfl k_X2_33 ?_
  refine s_astore C 26 dX2_comesBefore_24 rfl rfl rfl ?_
  dsimp only [List.set]
  refine s_aload_n C 27 dX2_comesBefore_26 rfl rfl ?_
  refine s_getf C 30 dX2_comesBefore_27 rfl f_X2_46 hS rfl ?_
  refine s_iconst C 31 (nI 2) dX2_comesBefore_30 rfl (by decide) ?_
  refine s_icmp_neN C 42 34 dX2_comesBefore_31 (by decide) rfl (by omega) (by omega) (fun z31 => ?_) (fun z31 => ?_)
  · skip
    refine s_aload_n C 43 dX2_comesBefore_42 rfl rfl ?_
    refine s_getf C 46 dX2_comesBefore_43 rfl f_X2_46 hS rfl ?_
    refine s_iconst C 47 (nI 1) dX2_comesBefore_46 rfl (by decide) ?_
    refine s_icmp_neN C 82 50 dX2_comesBefore_47 (by decide) rfl (by omega) (by omega) (fun z47 => ?_) (fun z47 => ?_)
    · skip
      refine s_iload_n C 83 dX2_comesBefore_82 rfl rfl ?_
      refine s_iload C 85 dX2_comesBefore_83 rfl rfl ?_
      refine s_icmp_eqN C 100 88 dX2_comesBefore_85 (by decide) rfl (by omega) (by omega) (fun z85 => ?_) (fun z85 => ?_)
      · skip
        refine s_aload C 102 dX2_comesBefore_100 rfl rfl ?_
        refine s_getf C 105 dX2_comesBefore_102 rfl f_X2_67 hOa rfl ?_
        refine s_alen C 106 dX2_comesBefore_105 rfl hLa (by decide) ?_
        refine s_aload C 108 dX2_comesBefore_106 rfl rfl ?_
        refine s_getf C 111 dX2_comesBefore_108 rfl f_X2_67 hOb rfl ?_
        refine s_alen C 112 dX2_comesBefore_111 rfl hLb (by decide) ?_
        refine s_icmp_eqN C 136 115 dX2_comesBefore_112 (by decide) rfl (by omega) (by omega) (fun z112 => ?_) (fun z112 => ?_)
        · skip
          refine s_iload_n C 137 dX2_comesBefore_136 rfl rfl ?_
          refine s_iload_n C 138 dX2_comesBefore_137 rfl rfl ?_
          refine s_icmp_geN C 145 141 dX2_comesBefore_138 (by decide) rfl (by omega) (by omega) (fun z138 => ?_) (fun z138 => ?_)
          · skip
            refine s_iconst C 146 (nI 0) dX2_comesBefore_145 rfl (by decide) ?_
            exact s_zret C dX2_comesBefore_146 Tr rfl (by decide) ⟨rF (by unfold cbB; simp [*] <;> first | omega | exact i32_nle.mp z73 | exact i32_le.mp z73), rfl⟩
          · skip
            refine s_iconst C 142 (nI 1) dX2_comesBefore_141 rfl (by decide) ?_
            refine s_goto C 146 dX2_comesBefore_142 (by decide) ?_
            exact s_zret C dX2_comesBefore_146 Tr rfl (by decide) ⟨rT (by unfold cbB; simp [*] <;> first | omega | exact i32_nle.mp z73 | exact i32_le.mp z73), rfl⟩
        · skip
          refine s_aload C 117 dX2_comesBefore_115 rfl rfl ?_
          refine s_getf C 120 dX2_comesBefore_117 rfl f_X2_67 hOa rfl ?_
          refine s_alen C 121 dX2_comesBefore_120 rfl hLa (by decide) ?_
          refine s_aload C 123 dX2_comesBefore_121 rfl rfl ?_
          refine s_getf C 126 dX2_comesBefore_123 rfl f_X2_67 hOb rfl ?_
          refine s_alen C 127 dX2_comesBefore_126 rfl hLb (by decide) ?_
          refine s_icmp_geN C 134 130 dX2_comesBefore_127 (by decide) rfl (by omega) (by omega) (fun z127 => ?_) (fun z127 => ?_)
          · skip
            refine s_iconst C 135 (nI 0) dX2_comesBefore_134 rfl (by decide) ?_
            exact s_zret C dX2_comesBefore_135 Tr rfl (by decide) ⟨rF (by unfold cbB; simp [*] <;> first | omega | exact i32_nle.mp z73 | exact i32_le.mp z73), rfl⟩
          · skip
            refine s_iconst C 131 (nI 1) dX2_comesBefore_130 rfl (by decide) ?_
            refine s_goto C 135 dX2_comesBefore_131 (by decide) ?_
            exact s_zret C dX2_comesBefore_135 Tr rfl (by decide) ⟨rT (by unfold cbB; simp [*] <;> first | omega | exact i32_nle.mp z73 | exact i32_le.mp z73), rfl⟩
      · skip
        refine s_iload_n C 89 dX2_comesBefore_88 rfl rfl ?_
        refine s_iload C 91 dX2_comesBefore_89 rfl rfl ?_
        refine s_icmp_geN C 98 94 dX2_comesBefore_91 (by decide) rfl (by omega) (by omega) (fun z91 => ?_) (fun z91 => ?_)
        · skip
          refine s_iconst C 99 (nI 0) dX2_comesBefore_98 rfl (by decide) ?_
          exact s_zret C dX2_comesBefore_99 Tr rfl (by decide) ⟨rF (by unfold cbB; simp [*] <;> first | omega | exact i32_nle.mp z73 | exact i32_le.mp z73), rfl⟩
        · skip
          refine s_iconst C 95 (nI 1) dX2_comesBefore_94 rfl (by decide) ?_
          refine s_goto C 99 dX2_comesBefore_95 (by decide) ?_
          exact s_zret C dX2_comesBefore_99 Tr rfl (by decide) ⟨rT (by unfold cbB; simp [*] <;> first | omega | exact i32_nle.mp z73 | exact i32_le.mp z73), rfl⟩
    · skip
      refine s_aload C 52 dX2_comesBefore_50 rfl rfl ?_
      refine s_getf C 55 dX2_comesBefore_52 rfl f_X2_64 hOa rfl ?_
      refine s_aload C 57 dX2_comesBefore_55 rfl rfl ?_
      refine s_getf C 60 dX2_comesBefore_57 rfl f_X2_64 hOb rfl ?_
      refine s_icmp_eq C 82 63 dX2_comesBefore_60 (by decide) rfl (fun z60 => ?_) (fun z60 => ?_)
      · skip
        refine s_iload_n C 83 dX2_comesBefore_82 rfl rfl ?_
        refine s_iload C 85 dX2_comesBefore_83 rfl rfl ?_
        refine s_icmp_eqN C 100 88 dX2_comesBefore_85 (by decide) rfl (by omega) (by omega) (fun z85 => ?_) (fun z85 => ?_)
        · skip
          refine s_aload C 102 dX2_comesBefore_100 rfl rfl ?_
          refine s_getf C 105 dX2_comesBefore_102 rfl f_X2_67 hOa rfl ?_
          refine s_alen C 106 dX2_comesBefore_105 rfl hLa (by decide) ?_
          refine s_aload C 108 dX2_comesBefore_106 rfl rfl ?_
          refine s_getf C 111 dX2_comesBefore_108 rfl f_X2_67 hOb rfl ?_
          refine s_alen C 112 dX2_comesBefore_111 rfl hLb (by decide) ?_
          refine s_icmp_eqN C 136 115 dX2_comesBefore_112 (by decide) rfl (by omega) (by omega) (fun z112 => ?_) (fun z112 => ?_)
          · skip
            refine s_iload_n C 137 dX2_comesBefore_136 rfl rfl ?_
            refine s_iload_n C 138 dX2_comesBefore_137 rfl rfl ?_
            refine s_icmp_geN C 145 141 dX2_comesBefore_138 (by decide) rfl (by omega) (by omega) (fun z138 => ?_) (fun z138 => ?_)
            · skip
              refine s_iconst C 146 (nI 0) dX2_comesBefore_145 rfl (by decide) ?_
              exact s_zret C dX2_comesBefore_146 Tr rfl (by decide) ⟨rF (by unfold cbB; simp [*] <;> first | omega | exact i32_nle.mp z73 | exact i32_le.mp z73), rfl⟩
            · skip
              refine s_iconst C 142 (nI 1) dX2_comesBefore_141 rfl (by decide) ?_
              refine s_goto C 146 dX2_comesBefore_142 (by decide) ?_
              exact s_zret C dX2_comesBefore_146 Tr rfl (by decide) ⟨rT (by unfold cbB; simp [*] <;> first | omega | exact i32_nle.mp z73 | exact i32_le.mp z73), rfl⟩
          · skip
            refine s_aload C 117 dX2_comesBefore_115 rfl rfl ?_
            refine s_getf C 120 dX2_comesBefore_117 rfl f_X2_67 hOa rfl ?_
            refine s_alen C 121 dX2_comesBefore_120 rfl hLa (by decide) ?_
            refine s_aload C 123 dX2_comesBefore_121 rfl rfl ?_
            refine s_getf C 126 dX2_comesBefore_123 rfl f_X2_67 hOb rfl ?_
            refine s_alen C 127 dX2_comesBefore_126 rfl hLb (by decide) ?_
            refine s_icmp_geN C 134 130 dX2_comesBefore_127 (by decide) rfl (by omega) (by omega) (fun z127 => ?_) (fun z127 => ?_)
            · skip
              refine s_iconst C 135 (nI 0) dX2_comesBefore_134 rfl (by decide) ?_
              exact s_zret C dX2_comesBefore_135 Tr rfl (by decide) ⟨rF (by unfold cbB; simp [*] <;> first | omega | exact i32_nle.mp z73 | exact i32_le.mp z73), rfl⟩
            · skip
              refine s_iconst C 131 (nI 1) dX2_comesBefore_130 rfl (by decide) ?_
              refine s_goto C 135 dX2_comesBefore_131 (by decide) ?_
              exact s_zret C dX2_comesBefore_135 Tr rfl (by decide) ⟨rT (by unfold cbB; simp [*] <;> first | omega | exact i32_nle.mp z73 | exact i32_le.mp z73), rfl⟩
        · skip
          refine s_iload_n C 89 dX2_comesBefore_88 rfl rfl ?_
          refine s_iload C 91 dX2_comesBefore_89 rfl rfl ?_
          refine s_icmp_geN C 98 94 dX2_comesBefore_91 (by decide) rfl (by omega) (by omega) (fun z91 => ?_) (fun z91 => ?_)
          · skip
            refine s_iconst C 99 (nI 0) dX2_comesBefore_98 rfl (by decide) ?_
            exact s_zret C dX2_comesBefore_99 Tr rfl (by decide) ⟨rF (by unfold cbB; simp [*] <;> first | omega | exact i32_nle.mp z73 | exact i32_le.mp z73), rfl⟩
          · skip
            refine s_iconst C 95 (nI 1) dX2_comesBefore_94 rfl (by decide) ?_
            refine s_goto C 99 dX2_comesBefore_95 (by decide) ?_
            exact s_zret C dX2_comesBefore_99 Tr rfl (by decide) ⟨rT (by unfold cbB; simp [*] <;> first | omega | exact i32_nle.mp z73 | exact i32_le.mp z73), rfl⟩
      · skip
        refine s_aload C 65 dX2_comesBefore_63 rfl rfl ?_
        refine s_getf C 68 dX2_comesBefore_65 rfl f_X2_64 hOa rfl ?_
        refine s_aload C 70 dX2_comesBefore_68 rfl rfl ?_
        refine s_getf C 73 dX2_comesBefore_70 rfl f_X2_64 hOb rfl ?_
        refine s_icmp_le C 80 76 dX2_comesBefore_73 (by decide) rfl (fun z73 => ?_) (fun z73 => ?_)
        · skip
          refine s_iconst C 81 (nI 0) dX2_comesBefore_80 rfl (by decide) ?_
          exact s_zret C dX2_comesBefore_81 Tr rfl (by decide) ⟨rF (by unfold cbB; simp [*] <;> first | omega | exact i32_nle.mp z73 | exact i32_le.mp z73), rfl⟩
        · skip
          refine s_iconst C 77 (nI 1) dX2_comesBefore_76 rfl (by decide) ?_
          refine s_goto C 81 dX2_comesBefore_77 (by decide) ?_
          exact s_zret C dX2_comesBefore_81 Tr rfl (by decide) ⟨rT (by unfold cbB; simp [*] <;> first | omega | exact i32_nle.mp z73 | exact i32_le.mp z73), rfl⟩
  · skip
    refine s_aload C 36 dX2_comesBefore_34 rfl rfl ?_
    refine s_aload C 38 dX2_comesBefore_36 rfl rfl ?_
    refine s_invV C 41 0 0 [] (mRv_of hOa rfl) dX2_comesBefore_38 rfl m_X2_61 (c_byName hOa hLa hIa hOb hLb hIb (by omega) (by omega)) rfl rfl rfl ⟨by decide, by decide⟩ (Nat.le_of_ble_eq_true rfl) (by omega) (by omega) ?_
    rintro _ M3 ⟨rfl, rfl⟩
    dsimp only [Option.toList, List.cons_append, List.nil_append]
    exact s_zret C dX2_comesBefore_41 Tr rfl (mB_z _) ⟨by rw [show cbB od i p1 j p2 ln fl us = nb (fl i) (fl j) (ln i) (ln j) 0 (ln i) from if_pos z31], rfl⟩

theorem sR.upd {G : mG} {M M1 : mM} {k s T mo od ql la qa cap : Nat} {q : Nat → Int32} {ln : Nat → Nat} {fl : Nat → Nat → Int32} {us : Nat → Int32} {g : Nat → Option Nat} {ad : Nat → Nat} {ifn : Nat → Nat → Int32} (hF : mZ [100 + 10 * k, 103 + 10 * k] M M1) (hS : M1 s = some (100 + 10 * k, .inl (3, [.ref la, .ref qa, .int (nI ql), .int (nI mo), .int (nI od)]))) (hL : lR G M (101 + 10 * k) (102 + 10 * k) la T cap g) (hQ : M1 qa = some (103 + 10 * k, .inr (1, 24, .inl q))) (hT : T ≤ 16) (hmo : mo < 4) (hod : od < 3) (hql : ql ≤ 24) (hA : ∀ t, t < T → g t = some (ad t) ∧ tR M (ad t) (ln t) (fl t) (1 + cnB (fl t) (ln t)) (ifn t) (us t) ∧ inT (fl t) (ifn t) (ln t) ∧ TV (ln t) (fl t)) : sR G M1 k s T mo od ql q ln fl us :=
  ⟨la, qa, cap, g, ad, ifn, hS, hL.at hF (by first | (simp; done) | (simp; omega)) (by first | (simp; done) | (simp; omega)) (by first | (simp; done) | (simp; omega)), hQ, hT, hmo, hod, hql, fun t ht => ⟨(hA t ht).1, (hA t ht).2.1.at hF (by first | (simp; done) | (simp; omega)), (hA t ht).2.2⟩⟩
set_option maxRecDepth 100000 in
set_option maxHeartbeats 4000000 in
/-- State.appendToQuery -/
theorem c_append {G : mG} {M : mM} {k s T mo od ql : Nat} {q : Nat → Int32} {ln : Nat → Nat} {fl : Nat → Nat → Int32} {us : Nat → Int32} (h : sR G M k s T mo od ql q ln fl us) {c : Int32} (hc : vp_nar .char c = c) (hq24 : ql < 24) : CC G iX2_appendToQuery 0 0 [.ref s, .int c] M (fun r M1 => r = none ∧ sR G M1 k s T mo od (ql + 1) (upd q ql c) ln fl us ∧ mZ [100 + 10 * k, 103 + 10 * k] M M1) := by
  refine CC.of rfl (Nat.le_of_ble_eq_true rfl) rfl (fun X C Tr => ?_)
  show V X 0 0 0 [some (.ref s), some (.int c)] [] M
  obtain ⟨la, qa, cap, g, ad, ifn, hS, hL, hQ, hT, hmo, hod, hql, hA⟩ := h
  have hF : mZ [100 + 10 * k, 103 + 10 * k] M M := mZ.rf
  refine s_aload_n C 1 dX2_appendToQuery_0 rfl rfl ?_
  refine s_getf C 4 dX2_appendToQuery_1 rfl f_X2_39 hS rfl ?_
  refine s_if_ltN C 7 (t := 39) dX2_appendToQuery_4 (by decide) rfl (by omega) ?_
  refine s_aload_n C 8 dX2_appendToQuery_7 rfl rfl ?_
  refine s_getf C 11 dX2_appendToQuery_8 rfl f_X2_39 hS rfl ?_
  refine s_aload_n C 12 dX2_appendToQuery_11 rfl rfl ?_
  refine s_getf C 15 dX2_appendToQuery_12 rfl f_X2_18 hS rfl ?_
  refine s_alen C 16 dX2_appendToQuery_15 rfl hQ (by decide) ?_
  refine s_icmp_geN C 39 19 dX2_appendToQuery_16 (by decide) rfl (by omega) (by omega) (fun z16 => ?_) (fun z16 => ?_)
  · skip
    omega
  · skip
    refine s_aload_n C 20 dX2_appendToQuery_19 rfl rfl ?_
    refine s_getf C 23 dX2_appendToQuery_20 rfl f_X2_18 hS rfl ?_
    refine s_aload_n C 24 dX2_appendToQuery_23 rfl rfl ?_
    refine s_getf C 27 dX2_appendToQuery_24 rfl f_X2_39 hS rfl ?_
    refine s_iload_n C 28 dX2_appendToQuery_27 rfl rfl ?_
    refine s_castU C 29 dX2_appendToQuery_28 rfl hQ (by first | decide | omega) (by omega) (by omega) (hc) (fun M1 U2 => ?_)
    have hS := U2.o hQ hS (by first | decide | omega)
    have hF := hF.put U2 hQ (by first | decide | (simp; done) | (simp; omega) | (simp [*]; done))
    have hQ := U2.s
    refine s_aload_n C 30 dX2_appendToQuery_29 rfl rfl ?_
    refine s_dup C 31 dX2_appendToQuery_30 rfl rfl ?_
    refine s_getf C 34 dX2_appendToQuery_31 rfl f_X2_39 hS rfl ?_
    refine s_iconst C 35 (nI 1) dX2_appendToQuery_34 rfl (by decide) ?_
    refine s_iaddN C 36 dX2_appendToQuery_35 rfl ?_
    refine s_putU C 39 dX2_appendToQuery_36 rfl p_X2_39 hS (by first | decide | omega) rfl rfl rfl (fs' := [.ref la, .ref qa, .int (nI (ql + 1)), .int (nI mo), .int (nI od)]) rfl (fun M3 U4 => ?_)
    have hQ := U4.o hS hQ (by first | decide | omega)
    have hF := hF.put U4 hS (by first | decide | (simp; done) | (simp; omega) | (simp [*]; done))
    have hS := U4.s
    exact s_vret C dX2_appendToQuery_39 Tr rfl ⟨rfl, sR.upd hF hS hL hQ hT hmo hod (by omega) hA, hF⟩

theorem mZ.mono2 {k : Nat} {M M1 M2 : mM} (h1 : mZ [101 + 10 * k, 102 + 10 * k] M M1) (h2 : mZ [100 + 10 * k, 103 + 10 * k] M1 M2) : mZ [100 + 10 * k, 101 + 10 * k, 102 + 10 * k, 103 + 10 * k] M M2 := (h1.mono (fun t ht => by simp at ht ⊢; omega)).tr (h2.mono (fun t ht => by simp at ht ⊢; omega))
set_option maxRecDepth 100000 in
set_option maxHeartbeats 4000000 in
/-- State.copyFrom -/
theorem c_copyFrom {G : mG} {M : mM} {k s T mo od ql : Nat} {q : Nat → Int32} {ln : Nat → Nat} {fl : Nat → Nat → Int32} {us : Nat → Int32} (h : sR G M k s T mo od ql q ln fl us) {k2 s2 T2 mo2 od2 ql2 : Nat} {q2 : Nat → Int32} {ln2 : Nat → Nat} {fl2 : Nat → Nat → Int32} {us2 : Nat → Int32} (h2 : sR G M k2 s2 T2 mo2 od2 ql2 q2 ln2 fl2 us2) (hkk : k ≠ k2) (hch2 : ∀ x, x < 24 → vp_nar .char (q2 x) = q2 x) : CC G iX2_copyFrom 16 352 [.ref s, .ref s2] M (fun r M1 => r = none ∧ ∃ qj, (∀ x, x < 24 → qj x = q2 x) ∧ sR G M1 k s T2 mo2 od2 ql2 qj ln2 fl2 us2 ∧ mZ [100 + 10 * k, 101 + 10 * k, 102 + 10 * k, 103 + 10 * k] M M1) := by
  refine CC.of rfl (Nat.le_of_ble_eq_true rfl) rfl (fun X C Tr => ?_)
  show V X 16 352 0 [some (.ref s), some (.ref s2), none] [] M
  obtain ⟨la, qa, cap, g, ad, ifn, hS, hL, hQ, hT, hmo, hod, hql, hA⟩ := h
  obtain ⟨la2, qa2, cap2, g2, ad2, ifn2, hS2, hL2, hQ2, hT2, hmo2, hod2, hql2, hA2⟩ := h2
  refine s_aload_n C 1 dX2_copyFrom_0 rfl rfl ?_
  refine s_getf C 4 dX2_copyFrom_1 rfl f_X2_12 hS rfl ?_
  refine s_invV C 7 16 352 [] (lR_rv hL) dX2_copyFrom_4 rfl m_X2_22 (c_clear hL (by omega) (by omega) (by omega)) rfl rfl rfl ⟨by decide, by decide⟩ (Nat.le_of_ble_eq_true rfl) (by omega) (by omega) ?_
  rintro _ M1 ⟨rfl, g9, hL9, hFc⟩
  dsimp only [Option.toList, List.cons_append, List.nil_append]
  have hS := hFc.at hS (by first | (simp; done) | (simp; omega))
  have hQ := hFc.at hQ (by first | (simp; done) | (simp; omega))
  have hS2 := hFc.at hS2 (by first | (simp; done) | (simp; omega))
  have hQ2 := hFc.at hQ2 (by first | (simp; done) | (simp; omega))
  refine s_iconst C 8 (nI 0) dX2_copyFrom_7 rfl (by decide) ?_
  refine s_istore_n C 9 dX2_copyFrom_8 rfl rfl rfl ?_
  dsimp only [List.set]
  suffices lp9 : ∀ (fu9 : Nat) (i cap9 : Nat) (g9 : Nat → Option Nat) (M9 : mM), T2 - i < fu9 → i ≤ T2 → lR G M9 (101 + 10 * k) (102 + 10 * k) la i cap9 g9 → (∀ j, j < i → g9 j = some (ad2 j)) → mZ [101 + 10 * k, 102 + 10 * k] M1 M9 → V X (16 - i) (352 - 22 * i) 9 [some (.ref s), some (.ref s2), some (.int (nI i))] [] M9 from lp9 (T2 + 1) 0 _ _ _ (by omega) (by omega) hL9 (fun j hj => by omega) mZ.rf
  intro fu9
  induction fu9 with
  | zero => intro i cap9 g9 M9 hi0 hi hL9 hg9 hF; omega
  | succ fu9 ih9 =>
    intro i cap9 g9 M9 hi0 hi hL9 hg9 hF
    have hS := hF.at hS (by first | (simp; done) | (simp; omega))
    have hQ := hF.at hQ (by first | (simp; done) | (simp; omega))
    have hS2 := hF.at hS2 (by first | (simp; done) | (simp; omega))
    have hQ2 := hF.at hQ2 (by first | (simp; done) | (simp; omega))
    have hFt := hFc.tr hF
    have hL2 := hL2.at hFt (by first | (simp; done) | (simp; omega)) (by first | (simp; done) | (simp; omega)) (by first | (simp; done) | (simp; omega))
    have hA2 := fun t ht => (⟨(hA2 t ht).1, (hA2 t ht).2.1.at hFt (by first | (simp; done) | (simp; omega)), (hA2 t ht).2.2⟩ : g2 t = some (ad2 t) ∧ tR M9 (ad2 t) (ln2 t) (fl2 t) (1 + cnB (fl2 t) (ln2 t)) (ifn2 t) (us2 t) ∧ inT (fl2 t) (ifn2 t) (ln2 t) ∧ TV (ln2 t) (fl2 t))
    refine s_iload_n C 10 dX2_copyFrom_9 rfl rfl ?_
    refine s_aload_n C 11 dX2_copyFrom_10 rfl rfl ?_
    refine s_getf C 14 dX2_copyFrom_11 rfl f_X2_12 hS2 rfl ?_
    refine s_invV C 17 (16 - i) (352 - 22 * i) [.int (nI i)] (lR_rv hL2) dX2_copyFrom_14 rfl m_X2_25 (c_size hL2) rfl rfl rfl ⟨by decide, by decide⟩ (Nat.le_of_ble_eq_true rfl) (by omega) (by omega) ?_
    rintro _ M2 ⟨rfl, rfl⟩
    dsimp only [Option.toList, List.cons_append, List.nil_append]
    refine s_icmp_geN C 45 20 dX2_copyFrom_17 (by decide) rfl (by omega) (by omega) (fun z17 => ?_) (fun z17 => ?_)
    · skip
      refine V.widen (bc' := 0) (bs' := 0) (by omega) (by omega) ?_
      have hi2 : i = T2 := by omega
      subst hi2
      have hA9 : ∀ t, t < i → g9 t = some (ad2 t) ∧ tR M9 (ad2 t) (ln2 t) (fl2 t) (1 + cnB (fl2 t) (ln2 t)) (ifn2 t) (us2 t) ∧ inT (fl2 t) (ifn2 t) (ln2 t) ∧ TV (ln2 t) (fl2 t) := fun t ht => ⟨hg9 t ht, (hA2 t ht).2⟩
      have hFq : mZ [100 + 10 * k, 103 + 10 * k] M9 M9 := mZ.rf
      refine s_iconst C 46 (nI 0) dX2_copyFrom_45 rfl (by decide) ?_
      refine s_istore_n C 47 dX2_copyFrom_46 rfl rfl rfl ?_
      dsimp only [List.set]
      suffices lp47 : ∀ (fu47 : Nat) (j : Nat) (qj : Nat → Int32) (Mj : mM), 24 - j < fu47 → j ≤ 24 → Mj qa = some (103 + 10 * k, .inr (1, 24, .inl qj)) → (∀ x, x < j → qj x = q2 x) → mZ [103 + 10 * k] M9 Mj → V X 0 0 47 [some (.ref s), some (.ref s2), some (.int (nI j))] [] Mj from lp47 25 0 _ _ (by omega) (by omega) hQ (fun x hx => by omega) mZ.rf
      intro fu47
      induction fu47 with
      | zero => intro j qj Mj hj0 hj hQ hqj hFq; omega
      | succ fu47 ih47 =>
        intro j qj Mj hj0 hj hQ hqj hFq
        have hS := hFq.at hS (by first | (simp; done) | (simp; omega))
        have hS2 := hFq.at hS2 (by first | (simp; done) | (simp; omega))
        have hQ2 := hFq.at hQ2 (by first | (simp; done) | (simp; omega))
        refine s_iload_n C 48 dX2_copyFrom_47 rfl rfl ?_
        refine s_aload_n C 49 dX2_copyFrom_48 rfl rfl ?_
        refine s_getf C 52 dX2_copyFrom_49 rfl f_X2_18 hS rfl ?_
        refine s_alen C 53 dX2_copyFrom_52 rfl hQ (by decide) ?_
        refine s_icmp_geN C 83 56 dX2_copyFrom_53 (by decide) rfl (by omega) (by omega) (fun z53 => ?_) (fun z53 => ?_)
        · skip
          have hFq := hFq.mono (T' := [100 + 10 * k, 103 + 10 * k]) (by first | (simp; done) | (simp; omega))
          have hqj2 : ∀ x, x < 24 → qj x = q2 x := fun x hx => hqj x (by omega)
          refine s_aload_n C 84 dX2_copyFrom_83 rfl rfl ?_
          refine s_aload_n C 85 dX2_copyFrom_84 rfl rfl ?_
          refine s_getf C 88 dX2_copyFrom_85 rfl f_X2_39 hS2 rfl ?_
          refine s_putU C 91 dX2_copyFrom_88 rfl p_X2_39 hS (by first | decide | omega) rfl rfl rfl (fs' := [.ref la, .ref qa, .int (nI ql2), .int (nI mo), .int (nI od)]) rfl (fun M3 U4 => ?_)
          have hQ := U4.o hS hQ (by first | decide | omega)
          have hS2 := U4.o hS hS2 (by first | decide | omega)
          have hQ2 := U4.o hS hQ2 (by first | decide | omega)
          have hFq := hFq.put U4 hS (by first | decide | (simp; done) | (simp; omega) | (simp [*]; done))
          have hS := U4.s
          refine s_aload_n C 92 dX2_copyFrom_91 rfl rfl ?_
          refine s_aload_n C 93 dX2_copyFrom_92 rfl rfl ?_
          refine s_getf C 96 dX2_copyFrom_93 rfl f_X2_43 hS2 rfl ?_
          refine s_putU C 99 dX2_copyFrom_96 rfl p_X2_43 hS (by first | decide | omega) rfl rfl rfl (fs' := [.ref la, .ref qa, .int (nI ql2), .int (nI mo2), .int (nI od)]) rfl (fun M5 U6 => ?_)
          have hQ := U6.o hS hQ (by first | decide | omega)
          have hS2 := U6.o hS hS2 (by first | decide | omega)
          have hQ2 := U6.o hS hQ2 (by first | decide | omega)
          have hFq := hFq.put U6 hS (by first | decide | (simp; done) | (simp; omega) | (simp [*]; done))
          have hS := U6.s
          refine s_aload_n C 100 dX2_copyFrom_99 rfl rfl ?_
          refine s_aload_n C 101 dX2_copyFrom_100 rfl rfl ?_
          refine s_getf C 104 dX2_copyFrom_101 rfl f_X2_46 hS2 rfl ?_
          refine s_putU C 107 dX2_copyFrom_104 rfl p_X2_46 hS (by first | decide | omega) rfl rfl rfl (fs' := [.ref la, .ref qa, .int (nI ql2), .int (nI mo2), .int (nI od2)]) rfl (fun M7 U8 => ?_)
          have hQ := U8.o hS hQ (by first | decide | omega)
          have hS2 := U8.o hS hS2 (by first | decide | omega)
          have hQ2 := U8.o hS hQ2 (by first | decide | omega)
          have hFq := hFq.put U8 hS (by first | decide | (simp; done) | (simp; omega) | (simp [*]; done))
          have hS := U8.s
          exact s_vret C dX2_copyFrom_107 Tr rfl ⟨rfl, qj, hqj2, sR.upd hFq hS hL9 hQ hT2 hmo2 hod2 hql2 hA9, (hFc.tr hF).mono2 hFq⟩
        · skip
          refine s_iload_n C 57 dX2_copyFrom_56 rfl rfl ?_
          refine s_aload_n C 58 dX2_copyFrom_57 rfl rfl ?_
          refine s_getf C 61 dX2_copyFrom_58 rfl f_X2_18 hS2 rfl ?_
          refine s_alen C 62 dX2_copyFrom_61 rfl hQ2 (by decide) ?_
          refine s_icmp_geN C 83 65 dX2_copyFrom_62 (by decide) rfl (by omega) (by omega) (fun z62 => ?_) (fun z62 => ?_)
          · skip
            have hFq := hFq.mono (T' := [100 + 10 * k, 103 + 10 * k]) (by first | (simp; done) | (simp; omega))
            have hqj2 : ∀ x, x < 24 → qj x = q2 x := fun x hx => hqj x (by omega)
            refine s_aload_n C 84 dX2_copyFrom_83 rfl rfl ?_
            refine s_aload_n C 85 dX2_copyFrom_84 rfl rfl ?_
            refine s_getf C 88 dX2_copyFrom_85 rfl f_X2_39 hS2 rfl ?_
            refine s_putU C 91 dX2_copyFrom_88 rfl p_X2_39 hS (by first | decide | omega) rfl rfl rfl (fs' := [.ref la, .ref qa, .int (nI ql2), .int (nI mo), .int (nI od)]) rfl (fun M9 U10 => ?_)
            have hQ := U10.o hS hQ (by first | decide | omega)
            have hS2 := U10.o hS hS2 (by first | decide | omega)
            have hQ2 := U10.o hS hQ2 (by first | decide | omega)
            have hFq := hFq.put U10 hS (by first | decide | (simp; done) | (simp; omega) | (simp [*]; done))
            have hS := U10.s
            refine s_aload_n C 92 dX2_copyFrom_91 rfl rfl ?_
            refine s_aload_n C 93 dX2_copyFrom_92 rfl rfl ?_
            refine s_getf C 96 dX2_copyFrom_93 rfl f_X2_43 hS2 rfl ?_
            refine s_putU C 99 dX2_copyFrom_96 rfl p_X2_43 hS (by first | decide | omega) rfl rfl rfl (fs' := [.ref la, .ref qa, .int (nI ql2), .int (nI mo2), .int (nI od)]) rfl (fun M11 U12 => ?_)
            have hQ := U12.o hS hQ (by first | decide | omega)
            have hS2 := U12.o hS hS2 (by first | decide | omega)
            have hQ2 := U12.o hS hQ2 (by first | decide | omega)
            have hFq := hFq.put U12 hS (by first | decide | (simp; done) | (simp; omega) | (simp [*]; done))
            have hS := U12.s
            refine s_aload_n C 100 dX2_copyFrom_99 rfl rfl ?_
            refine s_aload_n C 101 dX2_copyFrom_100 rfl rfl ?_
            refine s_getf C 104 dX2_copyFrom_101 rfl f_X2_46 hS2 rfl ?_
            refine s_putU C 107 dX2_copyFrom_104 rfl p_X2_46 hS (by first | decide | omega) rfl rfl rfl (fs' := [.ref la, .ref qa, .int (nI ql2), .int (nI mo2), .int (nI od2)]) rfl (fun M13 U14 => ?_)
            have hQ := U14.o hS hQ (by first | decide | omega)
            have hS2 := U14.o hS hS2 (by first | decide | omega)
            have hQ2 := U14.o hS hQ2 (by first | decide | omega)
            have hFq := hFq.put U14 hS (by first | decide | (simp; done) | (simp; omega) | (simp [*]; done))
            have hS := U14.s
            exact s_vret C dX2_copyFrom_107 Tr rfl ⟨rfl, qj, hqj2, sR.upd hFq hS hL9 hQ hT2 hmo2 hod2 hql2 hA9, (hFc.tr hF).mono2 hFq⟩
          · skip
            refine s_aload_n C 66 dX2_copyFrom_65 rfl rfl ?_
            refine s_getf C 69 dX2_copyFrom_66 rfl f_X2_18 hS rfl ?_
            refine s_iload_n C 70 dX2_copyFrom_69 rfl rfl ?_
            refine s_aload_n C 71 dX2_copyFrom_70 rfl rfl ?_
            refine s_getf C 74 dX2_copyFrom_71 rfl f_X2_18 hS2 rfl ?_
            refine s_iload_n C 75 dX2_copyFrom_74 rfl rfl ?_
            refine s_cald C 76 dX2_copyFrom_75 rfl hQ2 (by omega) (by omega) ?_
            refine s_castU C 77 dX2_copyFrom_76 rfl hQ (by first | decide | omega) (by omega) (by omega) (hch2 _ (by omega)) (fun M15 U16 => ?_)
            have hS := U16.o hQ hS (by first | decide | omega)
            have hS2 := U16.o hQ hS2 (by first | decide | omega)
            have hQ2 := U16.o hQ hQ2 (by first | decide | omega)
            have hFq := hFq.put U16 hQ (by first | decide | (simp; done) | (simp; omega) | (simp [*]; done))
            have hQ := U16.s
            refine s_iinc C 80 (nI (j + 1)) dX2_copyFrom_77 rfl rfl (by rw [← nI_add]; rfl) rfl ?_
            dsimp only [List.set]
            refine s_goto C 47 dX2_copyFrom_80 (by decide) ?_
            exact ih47 (j + 1) _ _ (by omega) (by omega) hQ (fun x hx => by by_cases e : x = j; (· rw [e]; exact pk_us); rw [pk_un e]; exact hqj x (by omega)) hFq
    · skip
      refine s_aload_n C 21 dX2_copyFrom_20 rfl rfl ?_
      refine s_getf C 24 dX2_copyFrom_21 rfl f_X2_12 hS rfl ?_
      refine s_aload_n C 25 dX2_copyFrom_24 rfl rfl ?_
      refine s_getf C 28 dX2_copyFrom_25 rfl f_X2_12 hS2 rfl ?_
      refine s_iload_n C 29 dX2_copyFrom_28 rfl rfl ?_
      refine s_invV C 32 (16 - i) (352 - 22 * i) [.ref la] (lR_rv hL2) dX2_copyFrom_29 rfl m_X2_29 (c_get (i := i) hL2 (by omega) (hA2 i (by omega)).1) rfl rfl rfl ⟨by decide, by decide⟩ (Nat.le_of_ble_eq_true rfl) (by omega) (by omega) ?_
      rintro _ M17 ⟨rfl, rfl⟩
      dsimp only [Option.toList, List.cons_append, List.nil_append]
      obtain ⟨l8, i8, hOa, -⟩ := (hA2 i (by omega)).2.1
      refine s_castT C 35 dX2_copyFrom_32 rfl hOa rfl k_X2_33 ?_
      have hT9 : ∀ kk, kk < i → ∀ y, g9 kk = some y → ∃ fs, M9 y = some (1, .inl (6, fs)) := fun kk hk y hy => by rw [hg9 kk hk] at hy; cases hy; obtain ⟨l9, i9, h9, -⟩ := (hA2 kk (by omega)).2.1; exact ⟨_, h9⟩
      refine s_invV C 38 (16 - i - 1) (352 - 22 * i - 22) [] (lR_rv hL9) dX2_copyFrom_35 rfl m_X2_35 (c_add hL9 (by omega) (by omega) (by omega) (by omega) (by omega) hT9 hOa (by omega) (by omega) (by omega)) rfl rfl rfl ⟨by decide, by decide⟩ (Nat.le_of_ble_eq_true rfl) (by omega) (by omega) ?_
      rintro _ M18 ⟨rfl, capa, ga, hLa, hgo, hgi, hFb⟩
      dsimp only [Option.toList, List.cons_append, List.nil_append]
      have hga : ∀ j, j < i + 1 → ga j = some (ad2 j) := fun j hj => by by_cases e : j = i; (· rw [e]; exact hgi); rw [hgo j (by omega)]; exact hg9 j (by omega)
      have hFa := hF.tr hFb
      refine s_pop C 39 dX2_copyFrom_38 rfl rfl ?_
      refine s_iinc C 42 (nI (i + 1)) dX2_copyFrom_39 rfl rfl (by rw [← nI_add]; rfl) rfl ?_
      dsimp only [List.set]
      refine s_goto C 9 dX2_copyFrom_42 (by decide) ?_
      refine V.widen (bc' := 16 - (i + 1)) (bs' := 352 - 22 * (i + 1)) (by omega) (by omega) ?_
      exact ih9 (i + 1) _ _ _ (by omega) (by omega) hLa hga hFa

set_option maxRecDepth 100000 in
set_option maxHeartbeats 4000000 in
/-- State() -/
theorem c_stateInit {G : mG} {M : mM} {k s : Nat} {g0 : Nat → Option Nat} (hS : M s = some (100 + 10 * k, .inl (3, [.null, .null, .int 0, .int 0, .int 0]))) (hE0 : M G.2.2.2.2.2.2.1 = some (0, .inr (2, 0, .inr g0))) : CC G iX2_init 2 27 [.ref s] M (fun r M1 => r = none ∧ (∀ ln fl us, sR G M1 k s 0 0 0 0 (fun _ => 0) ln fl us) ∧ mZ [100 + 10 * k] M M1) := by
  refine CC.of rfl (Nat.le_of_ble_eq_true rfl) rfl (fun X C Tr => ?_)
  show V X 2 27 0 [some (.ref s)] [] M
  have hF : mZ [100 + 10 * k] M M := mZ.rf
  refine s_aload_n C 1 dX2_init_0 rfl rfl ?_
  refine s_oi C 4 dX2_init_1 rfl oi_X2_3 rfl (by decide) (Nat.le_of_ble_eq_true rfl) ?_
  refine s_aload_n C 5 dX2_init_4 rfl rfl ?_
  refine s_newU C 8 1 24 (101 + 10 * k) dX2_init_5 rfl n_X2_9 (by first | decide | omega) (by omega) (by first | omega | (show _ + _ ≤ _; simp only [List.length_cons, List.length_nil]; omega)) (fun la M1 hnla U2 => ?_)
  have hS := U2.n hnla hS
  have hE0 := U2.n hnla hE0
  have hnla0 := hF.no hnla
  have hF := hF.new U2 hnla
  have hLo := U2.s
  refine s_dup C 9 dX2_init_8 rfl rfl ?_
  refine s_invI C 12 1 24 [.ref la, .ref s] dX2_init_9 rfl m_X2_11 (c_listInit hLo (by omega)) rfl rfl rfl ⟨by decide, by decide⟩ (Nat.le_of_ble_eq_true rfl) (by omega) (by omega) ?_
  rintro _ M3 ⟨rfl, U9⟩
  dsimp only [Option.toList, List.cons_append, List.nil_append]
  have hS := U9.o hLo hS (by first | decide | omega)
  have hE0 := U9.o hLo hE0 (by first | decide | omega)
  have hF := hF.putn U9 hnla0
  have hLo := U9.s
  refine s_putFU C 15 dX2_init_12 rfl p_X2_12 rfl hS (by first | decide | omega) rfl rfl rfl (fs' := [.ref la, .null, .int 0, .int 0, .int 0]) rfl (fun M4 U5 => ?_)
  have hE0 := U5.o hS hE0 (by first | decide | omega)
  have hLo := U5.o hS hLo (by first | decide | omega)
  have hF := hF.put U5 hS (by first | decide | (simp; done) | (simp; omega) | (simp [*]; done))
  have hS := U5.s
  refine s_aload_n C 16 dX2_init_15 rfl rfl ?_
  refine s_bipush C 18 (nI 24) dX2_init_16 rfl (by decide) ?_
  refine s_newaU C 20 0 0 (103 + 10 * k) dX2_init_18 rfl (Or.inr ⟨rfl, rfl, ac_char⟩) (by omega) (by first | decide | omega) (by omega) (by omega) (fun qa M6 hnqa U7 => ?_)
  have hS := U7.n hnqa hS
  have hE0 := U7.n hnqa hE0
  have hLo := U7.n hnqa hLo
  have hnqa0 := hF.no hnqa
  have hF := hF.new U7 hnqa
  have hQ := U7.s
  refine s_putFU C 23 dX2_init_20 rfl p_X2_18 rfl hS (by first | decide | omega) rfl rfl rfl (fs' := [.ref la, .ref qa, .int 0, .int 0, .int 0]) rfl (fun M8 U9 => ?_)
  have hE0 := U9.o hS hE0 (by first | decide | omega)
  have hLo := U9.o hS hLo (by first | decide | omega)
  have hQ := U9.o hS hQ (by first | decide | omega)
  have hF := hF.put U9 hS (by first | decide | (simp; done) | (simp; omega) | (simp [*]; done))
  have hS := U9.s
  exact s_vret C dX2_init_23 Tr rfl ⟨rfl, fun ln fl us => ⟨la, qa, 0, g0, fun _ => 0, fun _ _ => 0, hS, ⟨_, _, 0, hLo, hE0, Or.inr ⟨rfl, rfl, rfl⟩, Nat.le_refl _, by omega⟩, hQ, by omega, by omega, by omega, by omega, fun t ht => by omega⟩, hF⟩
