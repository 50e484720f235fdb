/-! pure words: keys and shortcuts -/
/-- only the cell at a may change -/
def mY (a : Nat) (M M1 : mM) : Prop := ∀ b, b ≠ a → M1 b = M b
theorem mY.rf {a : Nat} {M : mM} : mY a M M := fun _ _ => rfl
theorem mY.tr {a : Nat} {M M1 M2 : mM} (h1 : mY a M M1) (h2 : mY a M1 M2) : mY a M M2 := fun b hb => by rw [h2 b hb, h1 b hb]
theorem mY.put {a : Nat} {M0 M M1 : mM} {x : Nat × mE} {y : Option (Nat × mE)} (h : mY a M0 M) (u : mU M a x M1) (_ : M a = y) (_ : True) : mY a M0 M1 := fun b hb => by rw [u.2 b hb, h b hb]
theorem mY.at {a b t : Nat} {M M1 : mM} {e : mE} (h : mY a M M1) (hb : M b = some (t, e)) (hne : b ≠ a) : M1 b = some (t, e) := by rw [h b hne]; exact hb
theorem mY.Z {a t t1 : Nat} {T : List Nat} {M M1 : mM} {e e1 : mE} (h : mY a M M1) (ha : M a = some (t, e)) (ha1 : M1 a = some (t1, e1)) (ht : t ∈ T) : mZ T M M1 := by
  refine ⟨fun b tb eb hb hn => ?_, fun b hb => ?_⟩
  · by_cases q : b = a
    · rw [q, ha] at hb; cases hb; exact absurd ht hn
    · rw [h b q]; exact hb
  · by_cases q : b = a
    · rw [q, ha1] at hb; cases hb
    · rw [← h b q]; exact hb
def mtP (mo n m : Nat) (f ini q : Nat → Int32) (l x : Nat) : Bool := spB mo n m f x && mtB q (rG mo f ini) l x && decide (x + l ≤ rN mo n m)
theorem plc_fnd {mo n m : Nat} {f ini q : Nat → Int32} {l : Nat} : plc mo n m f ini q l = fnd (mtP mo n m f ini q l) 0 (rN mo n m + 1 - l) := by
  unfold plc
  refine fnd_cong _ _ (fun x _ hx => ?_)
  simp [mtP, show x + l ≤ rN mo n m by omega]
theorem plc_no {mo n m : Nat} {f ini q : Nat → Int32} {l : Nat} (h : ∀ x, x < rN mo n m → mtP mo n m f ini q l x = false) (hl : 0 < l) : plc mo n m f ini q l = none := by
  rw [plc_fnd]
  exact (fnd_none _ _).mpr (fun x _ hx => h x (by omega))
theorem plc_yes {mo n m : Nat} {f ini q : Nat → Int32} {l x : Nat} (h : mtP mo n m f ini q l x = true) (h2 : ∀ y, y < x → mtP mo n m f ini q l y = false) : plc mo n m f ini q l = some x := by
  rw [plc_fnd]
  have hx : x + l ≤ rN mo n m := by
    unfold mtP at h
    simp only [Bool.and_eq_true, decide_eq_true_eq] at h
    exact h.2
  exact (fnd_some _ _ _).mpr ⟨Nat.zero_le _, by omega, h, fun y _ hy => h2 y hy⟩
theorem plc_none {mo n m : Nat} {f ini q : Nat → Int32} {l : Nat} (h : plc mo n m f ini q l = none) : ∀ x, mtP mo n m f ini q l x = false := by
  intro x
  rw [plc_fnd] at h
  by_cases hx : x + l ≤ rN mo n m
  · exact (fnd_none _ _).mp h x (Nat.zero_le _) (by omega)
  · simp [mtP, hx]
theorem plc_some {mo n m : Nat} {f ini q : Nat → Int32} {l x : Nat} (h : plc mo n m f ini q l = some x) : mtP mo n m f ini q l x = true ∧ ∀ y, y < x → mtP mo n m f ini q l y = false := by
  rw [plc_fnd] at h
  obtain ⟨-, h2, h3, h4⟩ := (fnd_some _ _ _).mp h
  exact ⟨h3, fun y hy => h4 y (Nat.zero_le _) hy⟩
theorem mtP_0 {mo n m : Nat} {f ini q : Nat → Int32} {l x : Nat} (h : spB mo n m f x = false) : mtP mo n m f ini q l x = false := by simp [mtP, h]
theorem mtP_1 {mo n m : Nat} {f ini q : Nat → Int32} {l x : Nat} (hl : 0 < l) (h : ¬ rG mo f ini x = q 0) : mtP mo n m f ini q l x = false := by
  cases e : mtP mo n m f ini q l x with
  | false => rfl
  | true =>
    simp only [mtP, mtB, Bool.and_eq_true, decide_eq_true_eq] at e
    exact absurd (e.1.2 0 hl).symm h
/-- what the run of equal characters tells -/
theorem mtP_sl {mo n m N : Nat} {f ini r : Nat → Int32} {s l x most : Nat} (hsp : spB mo n m f x = true) (hl : l ≤ most) (hN : s + most ≤ N) : mtP mo n m f ini (fun k => r (s + k)) l x = true ↔ l ≤ sl r (rG mo f ini) N (rN mo n m) s x most ∧ x + l ≤ rN mo n m := by
  rw [sl_ge]
  simp only [mtP, mtB, hsp, Bool.true_and, Bool.and_eq_true, decide_eq_true_eq]
  constructor
  · rintro ⟨h1, h2⟩
    exact ⟨⟨hl, fun y hy => ⟨by omega, by omega, h1 y hy⟩⟩, h2⟩
  · rintro ⟨⟨-, h1⟩, h2⟩
    exact ⟨fun y hy => (h1 y hy).2.2, h2⟩
/-- what pieces of a title are cut from -/
def srN (mo n : Nat) (f : Nat → Int32) : Nat := rN mo n (1 + cnB f n)
def srG (mo n : Nat) (f : Nat → Int32) : Nat → Int32 := rG mo f (iniF f n)
/-- whether there is a piece -/
def pcB (mo n : Nat) (f : Nat → Int32) (s l : Nat) : Bool := spB mo n (1 + cnB f n) f s && decide (0 < l ∧ s + l ≤ srN mo n f ∧ srG mo n f (s + l - 1) ≠ nI 32)
/-- where a piece of t is in u -/
def pl2 (mo : Nat) (ln : Nat → Nat) (fl : Nat → Nat → Int32) (t s l u : Nat) : Option Nat := plc mo (ln u) (1 + cnB (fl u) (ln u)) (fl u) (iniF (fl u) (ln u)) (fun k => srG mo (ln t) (fl t) (s + k)) l
def aloB (T mo : Nat) (ln : Nat → Nat) (fl : Nat → Nat → Int32) (t s l : Nat) : Bool := decide (∀ u, u < T → u ≠ t → pl2 mo ln fl t s l u = none)
def firB (T mo od : Nat) (ln : Nat → Nat) (fl : Nat → Nat → Int32) (us : Nat → Int32) (t s l : Nat) : Bool := decide (∀ u, u < T → u ≠ t → ∀ p, pl2 mo ln fl t s l u = some p → cbB od u p t ((pl2 mo ln fl t s l t).getD 0) ln fl us = false)
/-- the shortest, and of these the first, of what there is among D; 0 of none -/
def bsR (P D : Nat → Nat → Prop) (ks kl : Nat) : Prop := (kl = 0 ∧ ks = 0 ∧ ∀ s l, D s l → 0 < l → ¬ P s l) ∨ (0 < kl ∧ D ks kl ∧ P ks kl ∧ ∀ s l, D s l → 0 < l → P s l → kl < l ∨ kl = l ∧ ks ≤ s)
theorem bsR.up {P D D' : Nat → Nat → Prop} {ks kl : Nat} (h : bsR P D ks kl) (hD : ∀ s l, 0 < l → D s l → D' s l) (h2 : ∀ s l, 0 < l → D' s l → P s l → D s l ∨ (0 < kl ∧ kl ≤ l ∧ ks ≤ s)) : bsR P D' ks kl := by
  rcases h with ⟨h0, h1, h3⟩ | ⟨h0, h1, h3, h4⟩
  · refine Or.inl ⟨h0, h1, fun s l hd hl hp => ?_⟩
    rcases h2 s l hl hd hp with g | g
    · exact h3 s l g hl hp
    · omega
  · refine Or.inr ⟨h0, hD _ _ h0 h1, h3, fun s l hd hl hp => ?_⟩
    rcases h2 s l hl hd hp with g | g
    · exact h4 s l g hl hp
    · omega
theorem bsR.hit {P D D' : Nat → Nat → Prop} {ks kl s0 l0 : Nat} (h : bsR P D ks kl) (h0 : 0 < l0) (hlt : kl = 0 ∨ l0 < kl) (hp : P s0 l0) (hd : D' s0 l0) (h2 : ∀ s l, 0 < l → D' s l → D s l ∨ (s = s0 ∧ l = l0)) : bsR P D' s0 l0 := by
  refine Or.inr ⟨h0, hd, hp, fun s l hdd hl hpp => ?_⟩
  rcases h2 s l hl hdd with g | g
  · rcases h with ⟨-, -, h3⟩ | ⟨g0, g1, g3, g4⟩
    · exact absurd hpp (h3 s l g hl)
    · have := g4 s l g hl hpp
      omega
  · omega
/-- Study's cells -/
def yR (M : mM) (y ks kl ss sl : Nat) (rows : Nat → Nat → Int32) : Prop := ∃ (pA : Nat) (gA : Nat → Option Nat) (ra : Nat → Nat), M y = some (40, .inl (4, [.ref pA, .int (nI ks), .int (nI kl), .int (nI ss), .int (nI sl)])) ∧ M pA = some (41, .inr (4, 16, .inr gA)) ∧ (∀ i, i < 16 → gA i = some (ra i)) ∧ (∀ i j, i < 16 → j < 16 → ra i = ra j → i = j) ∧ (∀ i, i < 16 → M (ra i) = some (42, .inr (0, 25, .inl (rows i)))) ∧ ks < 100 ∧ kl < 100 ∧ ss < 100 ∧ sl < 100
theorem yR_rv {G : mG} {M : mM} {y ks kl ss sl : Nat} {rows : Nat → Nat → Int32} (h : yR M y ks kl ss sl rows) : mRv G M RX3 y := by
  obtain ⟨pA, gA, ra, h1, -⟩ := h
  exact mRv_of h1 rfl
theorem yR.at {T : List Nat} {M M1 : mM} {y ks kl ss sl : Nat} {rows : Nat → Nat → Int32} (hF : mZ T M M1) (h0 : 40 ∉ T) (h1 : 41 ∉ T) (h2 : 42 ∉ T) (h : yR M y ks kl ss sl rows) : yR M1 y ks kl ss sl rows := by
  obtain ⟨pA, gA, ra, g1, g2, g3, g4, g5, g6⟩ := h
  exact ⟨pA, gA, ra, hF.at g1 h0, hF.at g2 h1, g3, g4, fun i hi => hF.at (g5 i hi) h2, g6⟩
set_option maxRecDepth 100000 in
set_option maxHeartbeats 4000000 in
theorem c_hasKey {G : mG} {M : mM} {y ks kl ss sl : Nat} {rows : Nat → Nat → Int32} (hy : yR M y ks kl ss sl rows) : CC G iX3_hasKey 0 0 [.ref y] M (fun r M1 => r = some (.int (mB (decide (0 < kl)))) ∧ M = M1) := by
  refine CC.of rfl (Nat.le_of_ble_eq_true rfl) rfl (fun X C Tr => ?_)
  show V X 0 0 0 [some (.ref y)] [] M
  obtain ⟨pA, gA, ra, hY, hA0, hgA, hinj, hrw, hks, hkl, hss, hsl⟩ := hy
  refine s_aload_n C 1 dX3_hasKey_0 rfl rfl ?_
  refine s_getf C 4 dX3_hasKey_1 rfl f_X3_20 hY rfl ?_
  refine s_if_leN C 11 7 dX3_hasKey_4 (by decide) rfl (by omega) (fun z4 => ?_) (fun z4 => ?_)
  · skip
    refine s_iconst C 12 (nI 0) dX3_hasKey_11 rfl (by decide) ?_
    exact s_zret C dX3_hasKey_12 Tr rfl (by decide) ⟨rF (by simp [*] <;> omega), rfl⟩
  · skip
    refine s_iconst C 8 (nI 1) dX3_hasKey_7 rfl (by decide) ?_
    refine s_goto C 12 dX3_hasKey_8 (by decide) ?_
    exact s_zret C dX3_hasKey_12 Tr rfl (by decide) ⟨rT (by simp [*] <;> omega), rfl⟩

set_option maxRecDepth 100000 in
set_option maxHeartbeats 4000000 in
theorem c_hasShortcut {G : mG} {M : mM} {y ks kl ss sl : Nat} {rows : Nat → Nat → Int32} (hy : yR M y ks kl ss sl rows) : CC G iX3_hasShortcut 0 0 [.ref y] M (fun r M1 => r = some (.int (mB (decide (0 < sl)))) ∧ M = M1) := by
  refine CC.of rfl (Nat.le_of_ble_eq_true rfl) rfl (fun X C Tr => ?_)
  show V X 0 0 0 [some (.ref y)] [] M
  obtain ⟨pA, gA, ra, hY, hA0, hgA, hinj, hrw, hks, hkl, hss, hsl⟩ := hy
  refine s_aload_n C 1 dX3_hasShortcut_0 rfl rfl ?_
  refine s_getf C 4 dX3_hasShortcut_1 rfl f_X3_26 hY rfl ?_
  refine s_if_leN C 11 7 dX3_hasShortcut_4 (by decide) rfl (by omega) (fun z4 => ?_) (fun z4 => ?_)
  · skip
    refine s_iconst C 12 (nI 0) dX3_hasShortcut_11 rfl (by decide) ?_
    exact s_zret C dX3_hasShortcut_12 Tr rfl (by decide) ⟨rF (by simp [*] <;> omega), rfl⟩
  · skip
    refine s_iconst C 8 (nI 1) dX3_hasShortcut_7 rfl (by decide) ?_
    refine s_goto C 12 dX3_hasShortcut_8 (by decide) ?_
    exact s_zret C dX3_hasShortcut_12 Tr rfl (by decide) ⟨rT (by simp [*] <;> omega), rfl⟩

set_option maxRecDepth 100000 in
set_option maxHeartbeats 4000000 in
theorem c_longestWanted {G : mG} {M : mM} {y ks kl ss sl : Nat} {rows : Nat → Nat → Int32} (hy : yR M y ks kl ss sl rows) : CC G iX3_longestWanted 0 0 [.ref y] M (fun r M1 => r = some (.int (nI (if kl = 0 ∨ sl = 0 then 24 else max kl sl - 1))) ∧ M = M1) := by
  refine CC.of rfl (Nat.le_of_ble_eq_true rfl) rfl (fun X C Tr => ?_)
  show V X 0 0 0 [some (.ref y)] [] M
  obtain ⟨pA, gA, ra, hY, hA0, hgA, hinj, hrw, hks, hkl, hss, hsl⟩ := hy
  refine s_aload_n C 1 dX3_longestWanted_0 rfl rfl ?_
  refine s_invV C 4 0 0 [] (mRv_of hY rfl) dX3_longestWanted_1 rfl m_X3_79 (c_hasKey ⟨pA, gA, ra, hY, hA0, hgA, hinj, hrw, hks, hkl, hss, hsl⟩) rfl rfl rfl ⟨by decide, by decide⟩ (Nat.le_of_ble_eq_true rfl) (by omega) (by omega) ?_
  rintro _ M1 ⟨rfl, rfl⟩
  dsimp only [Option.toList, List.cons_append, List.nil_append]
  refine s_if_eqB C 14 7 dX3_longestWanted_4 (by decide) rfl (fun z4 => ?_) (fun z4 => ?_)
  · skip
    have z4 := of_decide_eq_false z4
    have hz : (if kl = 0 ∨ sl = 0 then 24 else max kl sl - 1) = 24 := if_pos (by omega)
    refine s_bipush C 16 (nI 24) dX3_longestWanted_14 rfl (by decide) ?_
    exact s_iret C dX3_longestWanted_16 Tr rfl ⟨by rw [hz], rfl⟩
  · skip
    have z4 := of_decide_eq_true z4
    refine s_aload_n C 8 dX3_longestWanted_7 rfl rfl ?_
    refine s_invV C 11 0 0 [] (mRv_of hY rfl) dX3_longestWanted_8 rfl m_X3_87 (c_hasShortcut ⟨pA, gA, ra, hY, hA0, hgA, hinj, hrw, hks, hkl, hss, hsl⟩) rfl rfl rfl ⟨by decide, by decide⟩ (Nat.le_of_ble_eq_true rfl) (by omega) (by omega) ?_
    rintro _ M2 ⟨rfl, rfl⟩
    dsimp only [Option.toList, List.cons_append, List.nil_append]
    refine s_if_neB C 17 14 dX3_longestWanted_11 (by decide) rfl (fun z11 => ?_) (fun z11 => ?_)
    · skip
      have z11 := of_decide_eq_true z11
      have hz : (if kl = 0 ∨ sl = 0 then 24 else max kl sl - 1) = max kl sl - 1 := if_neg (by omega)
      refine s_aload_n C 18 dX3_longestWanted_17 rfl rfl ?_
      refine s_getf C 21 dX3_longestWanted_18 rfl f_X3_20 hY rfl ?_
      refine s_aload_n C 22 dX3_longestWanted_21 rfl rfl ?_
      refine s_getf C 25 dX3_longestWanted_22 rfl f_X3_26 hY rfl ?_
      refine s_maxN C 28 dX3_longestWanted_25 rfl mm_X3_93 rfl (by decide) (Nat.le_of_ble_eq_true rfl) (by omega) (by omega) ?_
      refine s_iconst C 29 (nI 1) dX3_longestWanted_28 rfl (by decide) ?_
      refine s_isubN C 30 dX3_longestWanted_29 rfl (by omega) ?_
      exact s_iret C dX3_longestWanted_30 Tr rfl ⟨by rw [hz], rfl⟩
    · skip
      have z11 := of_decide_eq_false z11
      have hz : (if kl = 0 ∨ sl = 0 then 24 else max kl sl - 1) = 24 := if_pos (by omega)
      refine s_bipush C 16 (nI 24) dX3_longestWanted_14 rfl (by decide) ?_
      exact s_iret C dX3_longestWanted_16 Tr rfl ⟨by rw [hz], rfl⟩

set_option maxRecDepth 100000 in
set_option maxHeartbeats 4000000 in
theorem c_splace {G : mG} {M : mM} {y ks kl ss sl : Nat} {rows : Nat → Nat → Int32} (hy : yR M y ks kl ss sl rows) {i l : Nat} (hi : i < 16) (hl : l ≤ 24) : CC G iX3_placeOf 0 0 [.ref y, .int (nI i), .int (nI l)] M (fun r M1 => r = some (.int (rows i l)) ∧ M = M1) := by
  refine CC.of rfl (Nat.le_of_ble_eq_true rfl) rfl (fun X C Tr => ?_)
  show V X 0 0 0 [some (.ref y), some (.int (nI i)), some (.int (nI l))] [] M
  obtain ⟨pA, gA, ra, hY, hA0, hgA, hinj, hrw, hks, hkl, hss, hsl⟩ := hy
  refine s_iload_n C 1 dX3_placeOf_0 rfl rfl ?_
  refine s_if_ltN C 4 (t := 23) dX3_placeOf_1 (by decide) rfl (by omega) ?_
  refine s_iload_n C 5 dX3_placeOf_4 rfl rfl ?_
  refine s_aload_n C 6 dX3_placeOf_5 rfl rfl ?_
  refine s_getf C 9 dX3_placeOf_6 rfl f_X3_11 hY rfl ?_
  refine s_alen C 10 dX3_placeOf_9 rfl hA0 (by decide) ?_
  refine s_icmp_geN C 23 13 dX3_placeOf_10 (by decide) rfl (by omega) (by omega) (fun z10 => ?_) (fun z10 => ?_)
  · skip
    omega
  · skip
    refine s_iload_n C 14 dX3_placeOf_13 rfl rfl ?_
    refine s_if_ltN C 17 (t := 23) dX3_placeOf_14 (by decide) rfl (by omega) ?_
    refine s_iload_n C 18 dX3_placeOf_17 rfl rfl ?_
    refine s_bipush C 20 (nI 24) dX3_placeOf_18 rfl (by decide) ?_
    refine s_icmp_leN C 26 23 dX3_placeOf_20 (by decide) rfl (by omega) (by omega) (fun z20 => ?_) (fun z20 => ?_)
    · skip
      refine s_aload_n C 27 dX3_placeOf_26 rfl rfl ?_
      refine s_getf C 30 dX3_placeOf_27 rfl f_X3_11 hY rfl ?_
      refine s_iload_n C 31 dX3_placeOf_30 rfl rfl ?_
      refine s_aald C 32 dX3_placeOf_31 rfl hA0 (by decide) (by omega) (by omega) ?_
      rw [hgA i (by omega)]
      dsimp only [va_rf]
      have hRow := hrw i (by omega)
      refine s_iload_n C 33 dX3_placeOf_32 rfl rfl ?_
      refine s_iald C 34 dX3_placeOf_33 rfl hRow (by omega) (by omega) ?_
      exact s_iret C dX3_placeOf_34 Tr rfl ⟨rfl, rfl⟩
    · skip
      omega

set_option maxRecDepth 100000 in
set_option maxHeartbeats 4000000 in
theorem c_isKnownBy {G : mG} {M : mM} {k s T mo od ql : Nat} {q : Nat → Int32} {ln : Nat → Nat} {fl : Nat → Nat → Int32} {us : Nat → Int32} (h : sR G M k s T mo od ql q ln fl us) {y ks kl ss sl : Nat} {rows : Nat → Nat → Int32} (hy : yR M y ks kl ss sl rows) {l t : Nat} {pls : Nat → Option Nat} (hpl : ∀ u, u < T → rows u l = oI (pls u)) (hpb : ∀ u, u < T → ∀ j, pls u = some j → j < 100000) (hl : l ≤ 24) (htT : t < T) : CC G iX3_isKnownBy 0 0 [.ref y, .int (nI l), .ref s, .int (nI t)] M (fun r M1 => r = some (.int (mB (decide (∀ u, u < T → u ≠ t → pls u = none)))) ∧ M = M1) := by
  refine CC.of rfl (Nat.le_of_ble_eq_true rfl) rfl (fun X C Tr => ?_)
  show V X 0 0 0 [some (.ref y), some (.int (nI l)), some (.ref s), some (.int (nI t)), none] [] M
  obtain ⟨la, qa, cap, g, ad, ifn, hS, hL, hQ, hT, hmo, hod, hql, hA⟩ := h
  refine s_iconst C 1 (nI 0) dX3_isKnownBy_0 rfl (by decide) ?_
  refine s_istore C 3 dX3_isKnownBy_1 rfl rfl rfl ?_
  dsimp only [List.set]
  suffices lp3 : ∀ (fu3 : Nat) (u : Nat), T - u < fu3 → u ≤ T → (∀ v, v < u → v ≠ t → pls v = none) → V X 0 0 3 [some (.ref y), some (.int (nI l)), some (.ref s), some (.int (nI t)), some (.int (nI u))] [] M from lp3 (T + 1) 0 (by omega) (by omega) (fun v hv => by omega)
  intro fu3
  induction fu3 with
  | zero => intro u hu0 hu hd; omega
  | succ fu3 ih3 =>
    intro u hu0 hu hd
    refine s_iload C 5 dX3_isKnownBy_3 rfl rfl ?_
    refine s_aload_n C 6 dX3_isKnownBy_5 rfl rfl ?_
    refine s_getf C 9 dX3_isKnownBy_6 rfl f_X3_35 hS rfl ?_
    refine s_invV C 12 0 0 [.int (nI u)] (lR_rv hL) dX3_isKnownBy_9 rfl m_X3_72 (c_size hL) rfl rfl rfl ⟨by decide, by decide⟩ (Nat.le_of_ble_eq_true rfl) (by omega) (by omega) ?_
    rintro _ M1 ⟨rfl, rfl⟩
    dsimp only [Option.toList, List.cons_append, List.nil_append]
    refine s_icmp_geN C 39 15 dX3_isKnownBy_12 (by decide) rfl (by omega) (by omega) (fun z12 => ?_) (fun z12 => ?_)
    · skip
      have hz : decide (∀ u, u < T → u ≠ t → pls u = none) = true := decide_eq_true (fun v hv hn => hd v (by omega) hn)
      refine s_iconst C 40 (nI 1) dX3_isKnownBy_39 rfl (by decide) ?_
      exact s_zret C dX3_isKnownBy_40 Tr rfl (by decide) ⟨rT hz, rfl⟩
    · skip
      refine s_iload C 17 dX3_isKnownBy_15 rfl rfl ?_
      refine s_iload_n C 18 dX3_isKnownBy_17 rfl rfl ?_
      refine s_icmp_eqN C 33 21 dX3_isKnownBy_18 (by decide) rfl (by omega) (by omega) (fun z18 => ?_) (fun z18 => ?_)
      · skip
        refine s_iinc C 36 (nI (u + 1)) dX3_isKnownBy_33 rfl rfl (by rw [← nI_add]; rfl) rfl ?_
        dsimp only [List.set]
        refine s_goto C 3 dX3_isKnownBy_36 (by decide) ?_
        exact ih3 (u + 1) (by omega) (by omega) (fun v hv hn => by by_cases e : v = u; (· rw [e] at hn ⊢; first | exact absurd z18 hn | exact (oI_lt (hpb u (by omega))).mp (by rw [← hpl u (by omega)]; exact z28)); exact hd v (by omega) hn)
      · skip
        refine s_aload_n C 22 dX3_isKnownBy_21 rfl rfl ?_
        refine s_iload C 24 dX3_isKnownBy_22 rfl rfl ?_
        refine s_iload_n C 25 dX3_isKnownBy_24 rfl rfl ?_
        refine s_invV C 28 0 0 [] (yR_rv hy) dX3_isKnownBy_25 rfl m_X3_100 (c_splace (i := u) (l := l) hy (by omega) (by omega)) rfl rfl rfl ⟨by decide, by decide⟩ (Nat.le_of_ble_eq_true rfl) (by omega) (by omega) ?_
        rintro _ M2 ⟨rfl, rfl⟩
        dsimp only [Option.toList, List.cons_append, List.nil_append]
        refine s_if_lt C 33 31 dX3_isKnownBy_28 (by decide) rfl (fun z28 => ?_) (fun z28 => ?_)
        · skip
          refine s_iinc C 36 (nI (u + 1)) dX3_isKnownBy_33 rfl rfl (by rw [← nI_add]; rfl) rfl ?_
          dsimp only [List.set]
          refine s_goto C 3 dX3_isKnownBy_36 (by decide) ?_
          exact ih3 (u + 1) (by omega) (by omega) (fun v hv hn => by by_cases e : v = u; (· rw [e] at hn ⊢; first | exact absurd z18 hn | exact (oI_lt (hpb u (by omega))).mp (by rw [← hpl u (by omega)]; exact z28)); exact hd v (by omega) hn)
        · skip
          have hz : decide (∀ u, u < T → u ≠ t → pls u = none) = false := decide_eq_false (fun q => z28 (by rw [hpl u (by omega), q u (by omega) z18]; decide))
          refine s_iconst C 32 (nI 0) dX3_isKnownBy_31 rfl (by decide) ?_
          exact s_zret C dX3_isKnownBy_32 Tr rfl (by decide) ⟨rF hz, rfl⟩

set_option maxRecDepth 100000 in
set_option maxHeartbeats 4000000 in
theorem c_isFirstFor {G : mG} {M : mM} {k s T mo od ql : Nat} {q : Nat → Int32} {ln : Nat → Nat} {fl : Nat → Nat → Int32} {us : Nat → Int32} (h : sR G M k s T mo od ql q ln fl us) {y ks kl ss sl : Nat} {rows : Nat → Nat → Int32} (hy : yR M y ks kl ss sl rows) {l t own : Nat} {pls : Nat → Option Nat} (hpl : ∀ u, u < T → rows u l = oI (pls u)) (hpb : ∀ u, u < T → ∀ j, pls u = some j → j < 1000) (hl : l ≤ 24) (htT : t < T) (hown : pls t = some own) : CC G iX3_isFirstFor 0 0 [.ref y, .int (nI l), .ref s, .int (nI t)] M (fun r M1 => r = some (.int (mB (decide (∀ u, u < T → u ≠ t → ∀ p, pls u = some p → cbB od u p t own ln fl us = false)))) ∧ M = M1) := by
  refine CC.of rfl (Nat.le_of_ble_eq_true rfl) rfl (fun X C Tr => ?_)
  show V X 0 0 0 [some (.ref y), some (.int (nI l)), some (.ref s), some (.int (nI t)), none, none, none] [] M
  obtain ⟨la, qa, cap, g, ad, ifn, hS, hL, hQ, hT, hmo, hod, hql, hA⟩ := h
  have hpb0 := hpb t htT own hown
  refine s_aload_n C 1 dX3_isFirstFor_0 rfl rfl ?_
  refine s_iload_n C 2 dX3_isFirstFor_1 rfl rfl ?_
  refine s_iload_n C 3 dX3_isFirstFor_2 rfl rfl ?_
  refine s_invV C 6 0 0 [] (yR_rv hy) dX3_isFirstFor_3 rfl m_X3_100 (c_splace (i := t) (l := l) hy (by omega) (by omega)) rfl rfl rfl ⟨by decide, by decide⟩ (Nat.le_of_ble_eq_true rfl) (by omega) (by omega) ?_
  rintro _ M1 ⟨rfl, rfl⟩
  dsimp only [Option.toList, List.cons_append, List.nil_append]
  rw [show rows t l = nI own by rw [hpl t htT, hown]; rfl]
  refine s_istore C 8 dX3_isFirstFor_6 rfl rfl rfl ?_
  dsimp only [List.set]
  refine s_iconst C 9 (nI 0) dX3_isFirstFor_8 rfl (by decide) ?_
  refine s_istore C 11 dX3_isFirstFor_9 rfl rfl rfl ?_
  dsimp only [List.set]
  suffices lp11 : ∀ (fu11 : Nat) (u : Nat), T - u < fu11 → u ≤ T → (∀ v, v < u → v ≠ t → ∀ p, pls v = some p → cbB od v p t own ln fl us = false) → V X 0 0 11 [some (.ref y), some (.int (nI l)), some (.ref s), some (.int (nI t)), some (.int (nI own)), some (.int (nI u)), none] [] M from lp11 (T + 1) 0 (by omega) (by omega) (fun v hv => by omega)
  intro fu11
  induction fu11 with
  | zero => intro u hu0 hu hd; omega
  | succ fu11 ih11 =>
    intro u hu0 hu hd
    refine s_iload C 13 dX3_isFirstFor_11 rfl rfl ?_
    refine s_aload_n C 14 dX3_isFirstFor_13 rfl rfl ?_
    refine s_getf C 17 dX3_isFirstFor_14 rfl f_X3_35 hS rfl ?_
    refine s_invV C 20 0 0 [.int (nI u)] (lR_rv hL) dX3_isFirstFor_17 rfl m_X3_72 (c_size hL) rfl rfl rfl ⟨by decide, by decide⟩ (Nat.le_of_ble_eq_true rfl) (by omega) (by omega) ?_
    rintro _ M2 ⟨rfl, rfl⟩
    dsimp only [Option.toList, List.cons_append, List.nil_append]
    refine s_icmp_geN C 65 23 dX3_isFirstFor_20 (by decide) rfl (by omega) (by omega) (fun z20 => ?_) (fun z20 => ?_)
    · skip
      have hz : decide (∀ u, u < T → u ≠ t → ∀ p, pls u = some p → cbB od u p t own ln fl us = false) = true := decide_eq_true (fun v hv hn => hd v (by omega) hn)
      refine s_iconst C 66 (nI 1) dX3_isFirstFor_65 rfl (by decide) ?_
      exact s_zret C dX3_isFirstFor_66 Tr rfl (by decide) ⟨rT hz, rfl⟩
    · skip
      refine s_aload_n C 24 dX3_isFirstFor_23 rfl rfl ?_
      refine s_iload C 26 dX3_isFirstFor_24 rfl rfl ?_
      refine s_iload_n C 27 dX3_isFirstFor_26 rfl rfl ?_
      refine s_invV C 30 0 0 [] (yR_rv hy) dX3_isFirstFor_27 rfl m_X3_100 (c_splace (i := u) (l := l) hy (by omega) (by omega)) rfl rfl rfl ⟨by decide, by decide⟩ (Nat.le_of_ble_eq_true rfl) (by omega) (by omega) ?_
      rintro _ M3 ⟨rfl, rfl⟩
      dsimp only [Option.toList, List.cons_append, List.nil_append]
      refine s_istore C 32 dX3_isFirstFor_30 rfl rfl rfl ?_
      dsimp only [List.set]
      refine s_iload C 34 dX3_isFirstFor_32 rfl rfl ?_
      refine s_iload_n C 35 dX3_isFirstFor_34 rfl rfl ?_
      refine s_icmp_eqN C 59 38 dX3_isFirstFor_35 (by decide) rfl (by omega) (by omega) (fun z35 => ?_) (fun z35 => ?_)
      · skip
        refine s_iinc C 62 (nI (u + 1)) dX3_isFirstFor_59 rfl rfl (by rw [← nI_add]; rfl) rfl ?_
        dsimp only [List.set]
        refine s_goto C 11 dX3_isFirstFor_62 (by decide) ?_
        refine V.drop 6 ?_
        dsimp only [List.set]
        exact ih11 (u + 1) (by omega) (by omega) (fun v hv hn p hp => by by_cases e : v = u; (· rw [e] at hn hp ⊢; first | exact absurd z35 hn | exact absurd hp (by rw [hno]; intro q; cases q) | (rw [hpp] at hp; cases hp; exact z54)); exact hd v (by omega) hn p hp)
      · skip
        refine s_iload C 40 dX3_isFirstFor_38 rfl rfl ?_
        refine s_if_lt C 59 43 dX3_isFirstFor_40 (by decide) rfl (fun z40 => ?_) (fun z40 => ?_)
        · skip
          have hno : pls u = none := (oI_lt (fun j hj => Nat.lt_of_lt_of_le (hpb u (by omega) j hj) (by decide))).mp (by rw [← hpl u (by omega)]; exact z40)
          refine s_iinc C 62 (nI (u + 1)) dX3_isFirstFor_59 rfl rfl (by rw [← nI_add]; rfl) rfl ?_
          dsimp only [List.set]
          refine s_goto C 11 dX3_isFirstFor_62 (by decide) ?_
          refine V.drop 6 ?_
          dsimp only [List.set]
          exact ih11 (u + 1) (by omega) (by omega) (fun v hv hn p hp => by by_cases e : v = u; (· rw [e] at hn hp ⊢; first | exact absurd z35 hn | exact absurd hp (by rw [hno]; intro q; cases q) | (rw [hpp] at hp; cases hp; exact z54)); exact hd v (by omega) hn p hp)
        · skip
          have hpx : ∃ p, pls u = some p := by cases e : pls u with | none => exact absurd (by rw [hpl u (by omega), e]; decide) z40 | some p => exact ⟨p, rfl⟩
          obtain ⟨p, hpp⟩ := hpx
          have hpb1 := hpb u (by omega) p hpp
          rw [show rows u l = nI p by rw [hpl u (by omega), hpp]; rfl]
          refine s_aload_n C 44 dX3_isFirstFor_43 rfl rfl ?_
          refine s_iload C 46 dX3_isFirstFor_44 rfl rfl ?_
          refine s_iload C 48 dX3_isFirstFor_46 rfl rfl ?_
          refine s_iload_n C 49 dX3_isFirstFor_48 rfl rfl ?_
          refine s_iload C 51 dX3_isFirstFor_49 rfl rfl ?_
          refine s_invV C 54 0 0 [] (mRv_of hS rfl) dX3_isFirstFor_51 rfl m_X3_103 (c_comesBefore ⟨la, qa, cap, g, ad, ifn, hS, hL, hQ, hT, hmo, hod, hql, hA⟩ (by omega) htT (by omega) (by omega)) rfl rfl rfl ⟨by decide, by decide⟩ (Nat.le_of_ble_eq_true rfl) (by omega) (by omega) ?_
          rintro _ M4 ⟨rfl, rfl⟩
          dsimp only [Option.toList, List.cons_append, List.nil_append]
          refine s_if_eqB C 59 57 dX3_isFirstFor_54 (by decide) rfl (fun z54 => ?_) (fun z54 => ?_)
          · skip
            refine s_iinc C 62 (nI (u + 1)) dX3_isFirstFor_59 rfl rfl (by rw [← nI_add]; rfl) rfl ?_
            dsimp only [List.set]
            refine s_goto C 11 dX3_isFirstFor_62 (by decide) ?_
            refine V.drop 6 ?_
            dsimp only [List.set]
            exact ih11 (u + 1) (by omega) (by omega) (fun v hv hn p hp => by by_cases e : v = u; (· rw [e] at hn hp ⊢; first | exact absurd z35 hn | exact absurd hp (by rw [hno]; intro q; cases q) | (rw [hpp] at hp; cases hp; exact z54)); exact hd v (by omega) hn p hp)
          · skip
            have hz : decide (∀ u, u < T → u ≠ t → ∀ p, pls u = some p → cbB od u p t own ln fl us = false) = false := decide_eq_false (fun q => by have := q u (by omega) z35 p hpp; rw [z54] at this; cases this)
            refine s_iconst C 58 (nI 0) dX3_isFirstFor_57 rfl (by decide) ?_
            exact s_zret C dX3_isFirstFor_58 Tr rfl (by decide) ⟨rF hz, rfl⟩

set_option maxRecDepth 100000 in
set_option maxHeartbeats 4000000 in
theorem c_findPlaces {G : mG} {M : mM} {a la ia n m row run tr N start most mo : Nat} {f ini rr h0 : Nat → Int32} {u : Int32} (hO : M a = some (1, .inl (6, [.ref la, .ref ia, .int u]))) (hL : M la = some (1, .inr (1, n, .inl f))) (hI : M ia = some (1, .inr (1, m, .inl ini))) (hn : n ≤ 24) (hm : m ≤ 100) (hRw : M row = some (tr, .inr (0, 25, .inl h0))) (htr0 : tr ≠ 0) (htr : tr ≠ 1) (hRn : M run = some (1, .inr (1, N, .inl rr))) (hmo : mo < 4) (hst : start < N) (hN1 : N ≤ 100) (hm24 : most ≤ 24) (hNm : start + most ≤ N) : CC G iX3_findPlaces 0 0 [.ref row, .int (nI most), .ref run, .int (nI start), .ref a, .int (nI mo)] M (fun r M1 => r = none ∧ ∃ h1, (∀ l, 0 < l → l ≤ most → h1 l = oI (plc mo n m f ini (fun k => rr (start + k)) l)) ∧ M1 row = some (tr, .inr (0, 25, .inl h1)) ∧ mY row M M1) := by
  refine CC.of rfl (Nat.le_of_ble_eq_true rfl) rfl (fun X C Tr => ?_)
  show V X 0 0 0 [some (.ref row), some (.int (nI most)), some (.ref run), some (.int (nI start)), some (.ref a), some (.int (nI mo)), none, none, none, none] [] M
  have hO0 := hO
  have hL0 := hL
  have hI0 := hI
  have hRn0 := hRn
  have hRw0 := hRw
  refine s_aload C 2 dX3_findPlaces_0 rfl rfl ?_
  refine s_iload C 4 dX3_findPlaces_2 rfl rfl ?_
  refine s_invV C 7 0 0 [] (mRv_of hO rfl) dX3_findPlaces_4 rfl m_X3_50 (c_run hO hL hI (by omega)) rfl rfl rfl ⟨by decide, by decide⟩ (Nat.le_of_ble_eq_true rfl) (by omega) (by omega) ?_
  rintro _ M1 ⟨rfl, rfl⟩
  dsimp only [Option.toList, List.cons_append, List.nil_append]
  have hR : M (if mo = 3 then ia else la) = some (1, .inr (1, rN mo n m, .inl (rG mo f ini))) := by unfold rN rG; split <;> assumption
  have hN : rN mo n m < 1000 := by unfold rN; split <;> omega
  refine s_astore C 9 dX3_findPlaces_7 rfl rfl rfl ?_
  dsimp only [List.set]
  refine s_iconst C 10 (nI 0) dX3_findPlaces_9 rfl (by decide) ?_
  refine s_istore C 12 dX3_findPlaces_10 rfl rfl rfl ?_
  dsimp only [List.set]
  refine s_iconst C 13 (nI 0) dX3_findPlaces_12 rfl (by decide) ?_
  refine s_istore C 15 dX3_findPlaces_13 rfl rfl rfl ?_
  dsimp only [List.set]
  have hR0 := hR
  suffices lp15 : ∀ (fu15 : Nat) (p c : Nat) (h9 : Nat → Int32) (M9 : mM), rN mo n m - p < fu15 → p ≤ rN mo n m → c ≤ most → (∀ l, 0 < l → l ≤ c → h9 l = oI (plc mo n m f ini (fun k => rr (start + k)) l)) → (∀ l, c < l → l ≤ most → ∀ x, x < p → mtP mo n m f ini (fun k => rr (start + k)) l x = false) → M9 row = some (tr, .inr (0, 25, .inl h9)) → mY row M M9 → V X 0 0 15 [some (.ref row), some (.int (nI most)), some (.ref run), some (.int (nI start)), some (.ref a), some (.int (nI mo)), some (.ref (if mo = 3 then ia else la)), some (.int (nI c)), some (.int (nI p)), none] [] M9 from lp15 (rN mo n m + 1) 0 0 _ _ (by omega) (by omega) (by omega) (fun l h1 h2 => by omega) (fun l h1 h2 x hx => by omega) hRw mY.rf
  intro fu15
  induction fu15 with
  | zero => intro p c h9 M9 hp0 hp hc hd hnm hRw hF; omega
  | succ fu15 ih15 =>
    intro p c h9 M9 hp0 hp hc hd hnm hRw hF
    have hO := hF.at hO0 (fun q => htr (by rw [q] at hO0; rw [hRw0] at hO0; cases hO0))
    have hL := hF.at hL0 (fun q => htr (by rw [q] at hL0; rw [hRw0] at hL0; cases hL0))
    have hI := hF.at hI0 (fun q => htr (by rw [q] at hI0; rw [hRw0] at hI0; cases hI0))
    have hRn := hF.at hRn0 (fun q => htr (by rw [q] at hRn0; rw [hRw0] at hRn0; cases hRn0))
    have hR := hF.at hR0 (fun q => htr (by rw [q] at hR0; rw [hRw0] at hR0; cases hR0))
    refine s_iload C 17 dX3_findPlaces_15 rfl rfl ?_
    refine s_aload C 19 dX3_findPlaces_17 rfl rfl ?_
    refine s_alen C 20 dX3_findPlaces_19 rfl hR (by decide) ?_
    refine s_icmp_geN C 98 23 dX3_findPlaces_20 (by decide) rfl (by omega) (by omega) (fun z20 => ?_) (fun z20 => ?_)
    · skip
      have hall : ∀ l, c < l → l ≤ most → plc mo n m f ini (fun k => rr (start + k)) l = none := fun l h1 h2 => plc_no (fun x hx => hnm l h1 h2 x (by omega)) (by omega)
      refine s_iload C 100 dX3_findPlaces_98 rfl rfl ?_
      refine s_iconst C 101 (nI 1) dX3_findPlaces_100 rfl (by decide) ?_
      refine s_iaddN C 102 dX3_findPlaces_101 rfl ?_
      refine s_istore C 104 dX3_findPlaces_102 rfl rfl rfl ?_
      dsimp only [List.set]
      suffices lp104 : ∀ (fu104 : Nat) (e : Nat) (h8 : Nat → Int32) (M8 : mM), most + 1 - e < fu104 → e ≤ most + 1 → c < e → (∀ l, 0 < l → l < e → h8 l = oI (plc mo n m f ini (fun k => rr (start + k)) l)) → M8 row = some (tr, .inr (0, 25, .inl h8)) → mY row M M8 → V X 0 0 104 [some (.ref row), some (.int (nI most)), some (.ref run), some (.int (nI start)), some (.ref a), some (.int (nI mo)), some (.ref (if mo = 3 then ia else la)), some (.int (nI c)), some (.int (nI e)), none] [] M8 from lp104 (most + 1) (c + 1) _ _ (by omega) (by omega) (by omega) (fun l h1 h2 => hd l h1 (by omega)) hRw hF
      intro fu104
      induction fu104 with
      | zero => intro e h8 M8 he0 he hce hd hRw hF; omega
      | succ fu104 ih104 =>
        intro e h8 M8 he0 he hce hd hRw hF
        have hO := hF.at hO0 (fun q => htr (by rw [q] at hO0; rw [hRw0] at hO0; cases hO0))
        have hL := hF.at hL0 (fun q => htr (by rw [q] at hL0; rw [hRw0] at hL0; cases hL0))
        have hI := hF.at hI0 (fun q => htr (by rw [q] at hI0; rw [hRw0] at hI0; cases hI0))
        have hRn := hF.at hRn0 (fun q => htr (by rw [q] at hRn0; rw [hRw0] at hRn0; cases hRn0))
        have hR := hF.at hR0 (fun q => htr (by rw [q] at hR0; rw [hRw0] at hR0; cases hR0))
        refine s_iload C 106 dX3_findPlaces_104 rfl rfl ?_
        refine s_iload_n C 107 dX3_findPlaces_106 rfl rfl ?_
        refine s_icmp_gtN C 129 110 dX3_findPlaces_107 (by decide) rfl (by omega) (by omega) (fun z107 => ?_) (fun z107 => ?_)
        · skip
          exact s_vret C dX3_findPlaces_129 Tr rfl ⟨rfl, h8, fun l h1 h2 => hd l h1 (by omega), hRw, hF⟩
        · skip
          refine s_iload C 112 dX3_findPlaces_110 rfl rfl ?_
          refine s_aload_n C 113 dX3_findPlaces_112 rfl rfl ?_
          refine s_alen C 114 dX3_findPlaces_113 rfl hRw (by decide) ?_
          refine s_icmp_geN C 129 117 dX3_findPlaces_114 (by decide) rfl (by omega) (by omega) (fun z114 => ?_) (fun z114 => ?_)
          · skip
            omega
          · skip
            refine s_aload_n C 118 dX3_findPlaces_117 rfl rfl ?_
            refine s_iload C 120 dX3_findPlaces_118 rfl rfl ?_
            refine s_bipush C 122 (-6) dX3_findPlaces_120 rfl (by decide) ?_
            refine s_iastU C 123 dX3_findPlaces_122 rfl hRw (by first | decide | omega) (by omega) (by omega) (fun M2 U3 => ?_)
            have hO := U3.o hRw hO (by first | decide | omega)
            have hL := U3.o hRw hL (by first | decide | omega)
            have hI := U3.o hRw hI (by first | decide | omega)
            have hRn := U3.o hRw hRn (by first | decide | omega)
            have hR := U3.o hRw hR (by first | decide | omega)
            have hF := hF.put U3 hRw (by first | decide | (simp; done) | (simp; omega) | (simp [*]; done))
            have hRw := U3.s
            refine s_iinc C 126 (nI (e + 1)) dX3_findPlaces_123 rfl rfl (by rw [← nI_add]; rfl) rfl ?_
            dsimp only [List.set]
            refine s_goto C 104 dX3_findPlaces_126 (by decide) ?_
            exact ih104 (e + 1) _ _ (by omega) (by omega) (by omega) (fun l h1 h2 => by by_cases q : l = e; (· rw [q, pk_us, hall e (by omega) (by omega)]; rfl); rw [pk_un q]; exact hd l h1 (by omega)) hRw hF
    · skip
      refine s_iload C 25 dX3_findPlaces_23 rfl rfl ?_
      refine s_iload_n C 26 dX3_findPlaces_25 rfl rfl ?_
      refine s_icmp_geN C 98 29 dX3_findPlaces_26 (by decide) rfl (by omega) (by omega) (fun z26 => ?_) (fun z26 => ?_)
      · skip
        have hall : ∀ l, c < l → l ≤ most → plc mo n m f ini (fun k => rr (start + k)) l = none := fun l h1 h2 => by omega
        refine s_iload C 100 dX3_findPlaces_98 rfl rfl ?_
        refine s_iconst C 101 (nI 1) dX3_findPlaces_100 rfl (by decide) ?_
        refine s_iaddN C 102 dX3_findPlaces_101 rfl ?_
        refine s_istore C 104 dX3_findPlaces_102 rfl rfl rfl ?_
        dsimp only [List.set]
        suffices lp104 : ∀ (fu104 : Nat) (e : Nat) (h8 : Nat → Int32) (M8 : mM), most + 1 - e < fu104 → e ≤ most + 1 → c < e → (∀ l, 0 < l → l < e → h8 l = oI (plc mo n m f ini (fun k => rr (start + k)) l)) → M8 row = some (tr, .inr (0, 25, .inl h8)) → mY row M M8 → V X 0 0 104 [some (.ref row), some (.int (nI most)), some (.ref run), some (.int (nI start)), some (.ref a), some (.int (nI mo)), some (.ref (if mo = 3 then ia else la)), some (.int (nI c)), some (.int (nI e)), none] [] M8 from lp104 (most + 1) (c + 1) _ _ (by omega) (by omega) (by omega) (fun l h1 h2 => hd l h1 (by omega)) hRw hF
        intro fu104
        induction fu104 with
        | zero => intro e h8 M8 he0 he hce hd hRw hF; omega
        | succ fu104 ih104 =>
          intro e h8 M8 he0 he hce hd hRw hF
          have hO := hF.at hO0 (fun q => htr (by rw [q] at hO0; rw [hRw0] at hO0; cases hO0))
          have hL := hF.at hL0 (fun q => htr (by rw [q] at hL0; rw [hRw0] at hL0; cases hL0))
          have hI := hF.at hI0 (fun q => htr (by rw [q] at hI0; rw [hRw0] at hI0; cases hI0))
          have hRn := hF.at hRn0 (fun q => htr (by rw [q] at hRn0; rw [hRw0] at hRn0; cases hRn0))
          have hR := hF.at hR0 (fun q => htr (by rw [q] at hR0; rw [hRw0] at hR0; cases hR0))
          refine s_iload C 106 dX3_findPlaces_104 rfl rfl ?_
          refine s_iload_n C 107 dX3_findPlaces_106 rfl rfl ?_
          refine s_icmp_gtN C 129 110 dX3_findPlaces_107 (by decide) rfl (by omega) (by omega) (fun z107 => ?_) (fun z107 => ?_)
          · skip
            exact s_vret C dX3_findPlaces_129 Tr rfl ⟨rfl, h8, fun l h1 h2 => hd l h1 (by omega), hRw, hF⟩
          · skip
            refine s_iload C 112 dX3_findPlaces_110 rfl rfl ?_
            refine s_aload_n C 113 dX3_findPlaces_112 rfl rfl ?_
            refine s_alen C 114 dX3_findPlaces_113 rfl hRw (by decide) ?_
            refine s_icmp_geN C 129 117 dX3_findPlaces_114 (by decide) rfl (by omega) (by omega) (fun z114 => ?_) (fun z114 => ?_)
            · skip
              omega
            · skip
              refine s_aload_n C 118 dX3_findPlaces_117 rfl rfl ?_
              refine s_iload C 120 dX3_findPlaces_118 rfl rfl ?_
              refine s_bipush C 122 (-6) dX3_findPlaces_120 rfl (by decide) ?_
              refine s_iastU C 123 dX3_findPlaces_122 rfl hRw (by first | decide | omega) (by omega) (by omega) (fun M4 U5 => ?_)
              have hO := U5.o hRw hO (by first | decide | omega)
              have hL := U5.o hRw hL (by first | decide | omega)
              have hI := U5.o hRw hI (by first | decide | omega)
              have hRn := U5.o hRw hRn (by first | decide | omega)
              have hR := U5.o hRw hR (by first | decide | omega)
              have hF := hF.put U5 hRw (by first | decide | (simp; done) | (simp; omega) | (simp [*]; done))
              have hRw := U5.s
              refine s_iinc C 126 (nI (e + 1)) dX3_findPlaces_123 rfl rfl (by rw [← nI_add]; rfl) rfl ?_
              dsimp only [List.set]
              refine s_goto C 104 dX3_findPlaces_126 (by decide) ?_
              exact ih104 (e + 1) _ _ (by omega) (by omega) (by omega) (fun l h1 h2 => by by_cases q : l = e; (· rw [q, pk_us, hall e (by omega) (by omega)]; rfl); rw [pk_un q]; exact hd l h1 (by omega)) hRw hF
      · skip
        refine s_aload C 31 dX3_findPlaces_29 rfl rfl ?_
        refine s_iload C 33 dX3_findPlaces_31 rfl rfl ?_
        refine s_cald C 34 dX3_findPlaces_33 rfl hR (by omega) (by omega) ?_
        refine s_aload_n C 35 dX3_findPlaces_34 rfl rfl ?_
        refine s_iload_n C 36 dX3_findPlaces_35 rfl rfl ?_
        refine s_cald C 37 dX3_findPlaces_36 rfl hRn (by omega) (by omega) ?_
        refine s_icmp_ne C 92 40 dX3_findPlaces_37 (by decide) rfl (fun z37 => ?_) (fun z37 => ?_)
        · skip
          have hlast : ∀ l, c < l → l ≤ most → mtP mo n m f ini (fun k => rr (start + k)) l p = false := fun l h1 h2 => mtP_1 (by omega) z37
          refine s_iinc C 95 (nI (p + 1)) dX3_findPlaces_92 rfl rfl (by rw [← nI_add]; rfl) rfl ?_
          dsimp only [List.set]
          refine s_goto C 15 dX3_findPlaces_95 (by decide) ?_
          exact ih15 (p + 1) _ _ _ (by omega) (by omega) (by omega) hd (fun l h1 h2 x hx => by by_cases e : x = p; (· rw [e]; exact hlast l h1 h2); exact hnm l (by omega) h2 x (by omega)) hRw hF
        · skip
          refine s_aload C 42 dX3_findPlaces_40 rfl rfl ?_
          refine s_iload C 44 dX3_findPlaces_42 rfl rfl ?_
          refine s_iload C 46 dX3_findPlaces_44 rfl rfl ?_
          refine s_invV C 49 0 0 [] (mRv_of hO rfl) dX3_findPlaces_46 rfl m_X3_54 (c_startsPiece (p := p) hO hL hI (by omega) (by omega) (by omega) (by omega)) rfl rfl rfl ⟨by decide, by decide⟩ (Nat.le_of_ble_eq_true rfl) (by omega) (by omega) ?_
          rintro _ M6 ⟨rfl, rfl⟩
          dsimp only [Option.toList, List.cons_append, List.nil_append]
          refine s_if_eqB C 92 52 dX3_findPlaces_49 (by decide) rfl (fun z49 => ?_) (fun z49 => ?_)
          · skip
            have hlast : ∀ l, c < l → l ≤ most → mtP mo n m f ini (fun k => rr (start + k)) l p = false := fun l h1 h2 => mtP_0 z49
            refine s_iinc C 95 (nI (p + 1)) dX3_findPlaces_92 rfl rfl (by rw [← nI_add]; rfl) rfl ?_
            dsimp only [List.set]
            refine s_goto C 15 dX3_findPlaces_95 (by decide) ?_
            exact ih15 (p + 1) _ _ _ (by omega) (by omega) (by omega) hd (fun l h1 h2 x hx => by by_cases e : x = p; (· rw [e]; exact hlast l h1 h2); exact hnm l (by omega) h2 x (by omega)) hRw hF
          · skip
            have hsp := z49
            refine s_aload_n C 53 dX3_findPlaces_52 rfl rfl ?_
            refine s_iload_n C 54 dX3_findPlaces_53 rfl rfl ?_
            refine s_aload C 56 dX3_findPlaces_54 rfl rfl ?_
            refine s_iload C 58 dX3_findPlaces_56 rfl rfl ?_
            refine s_iload_n C 59 dX3_findPlaces_58 rfl rfl ?_
            have hsl := sl_le (f := rr) (g := rG mo f ini) (n := N) (m := rN mo n m) most start p
            refine s_invS C 62 0 0 [] dX3_findPlaces_59 rfl m_X3_96 (c_sameLength hRn hR (by omega) (by omega) (by omega) (by omega) (by omega)) rfl rfl rfl ⟨by decide, by decide⟩ (Nat.le_of_ble_eq_true rfl) (by omega) (by omega) ?_
            rintro _ M7 ⟨rfl, rfl⟩
            dsimp only [Option.toList, List.cons_append, List.nil_append]
            refine s_istore C 64 dX3_findPlaces_62 rfl rfl rfl ?_
            dsimp only [List.set]
            suffices lp64 : ∀ (fu64 : Nat) (c2 : Nat) (h8 : Nat → Int32) (M8 : mM), most - c2 < fu64 → c2 ≤ most → c ≤ c2 → c2 ≤ max c (sl rr (rG mo f ini) N (rN mo n m) start p most) → (∀ l, 0 < l → l ≤ c2 → h8 l = oI (plc mo n m f ini (fun k => rr (start + k)) l)) → M8 row = some (tr, .inr (0, 25, .inl h8)) → mY row M M8 → V X 0 0 64 [some (.ref row), some (.int (nI most)), some (.ref run), some (.int (nI start)), some (.ref a), some (.int (nI mo)), some (.ref (if mo = 3 then ia else la)), some (.int (nI c2)), some (.int (nI p)), some (.int (nI (sl rr (rG mo f ini) N (rN mo n m) start p most)))] [] M8 from lp64 (most + 1) c _ _ (by omega) (by omega) (by omega) (by omega) hd hRw hF
            intro fu64
            induction fu64 with
            | zero => intro c2 h8 M8 hc20 hc2 hcc hcs hd hRw hF; omega
            | succ fu64 ih64 =>
              intro c2 h8 M8 hc20 hc2 hcc hcs hd hRw hF
              have hO := hF.at hO0 (fun q => htr (by rw [q] at hO0; rw [hRw0] at hO0; cases hO0))
              have hL := hF.at hL0 (fun q => htr (by rw [q] at hL0; rw [hRw0] at hL0; cases hL0))
              have hI := hF.at hI0 (fun q => htr (by rw [q] at hI0; rw [hRw0] at hI0; cases hI0))
              have hRn := hF.at hRn0 (fun q => htr (by rw [q] at hRn0; rw [hRw0] at hRn0; cases hRn0))
              have hR := hF.at hR0 (fun q => htr (by rw [q] at hR0; rw [hRw0] at hR0; cases hR0))
              refine s_iload C 66 dX3_findPlaces_64 rfl rfl ?_
              refine s_iload C 68 dX3_findPlaces_66 rfl rfl ?_
              refine s_icmp_geN C 92 71 dX3_findPlaces_68 (by decide) rfl (by omega) (by omega) (fun z68 => ?_) (fun z68 => ?_)
              · skip
                have hlast : ∀ l, c2 < l → l ≤ most → mtP mo n m f ini (fun k => rr (start + k)) l p = false := fun l h1 h2 => by cases e : mtP mo n m f ini (fun k => rr (start + k)) l p with | false => rfl | true => exact absurd ((mtP_sl hsp h2 hNm).mp e).1 (by omega)
                have hnm : ∀ l, c2 < l → l ≤ most → ∀ x, x < p → mtP mo n m f ini (fun k => rr (start + k)) l x = false := fun l h1 h2 x hx => hnm l (by omega) h2 x hx
                refine s_iinc C 95 (nI (p + 1)) dX3_findPlaces_92 rfl rfl (by rw [← nI_add]; rfl) rfl ?_
                dsimp only [List.set]
                refine s_goto C 15 dX3_findPlaces_95 (by decide) ?_
                refine V.drop 9 ?_
                dsimp only [List.set]
                exact ih15 (p + 1) _ _ _ (by omega) (by omega) (by omega) hd (fun l h1 h2 x hx => by by_cases e : x = p; (· rw [e]; exact hlast l h1 h2); exact hnm l (by omega) h2 x (by omega)) hRw hF
              · skip
                have hge := (sl_ge (f := rr) (g := rG mo f ini) (n := N) (m := rN mo n m) most start p (c2 + 1)).mp (by omega)
                have hpl2 : p + (c2 + 1) ≤ rN mo n m := by have := (hge.2 c2 (by omega)).2.1; omega
                have hnew : plc mo n m f ini (fun k => rr (start + k)) (c2 + 1) = some p := plc_yes ((mtP_sl hsp (by omega) hNm).mpr ⟨by omega, hpl2⟩) (fun x hx => hnm (c2 + 1) (by omega) (by omega) x hx)
                refine s_iload C 73 dX3_findPlaces_71 rfl rfl ?_
                refine s_iconst C 74 (nI 1) dX3_findPlaces_73 rfl (by decide) ?_
                refine s_iaddN C 75 dX3_findPlaces_74 rfl ?_
                refine s_aload_n C 76 dX3_findPlaces_75 rfl rfl ?_
                refine s_alen C 77 dX3_findPlaces_76 rfl hRw (by decide) ?_
                refine s_icmp_geN C 92 80 dX3_findPlaces_77 (by decide) rfl (by omega) (by omega) (fun z77 => ?_) (fun z77 => ?_)
                · skip
                  omega
                · skip
                  refine s_iinc C 83 (nI (c2 + 1)) dX3_findPlaces_80 rfl rfl (by rw [← nI_add]; rfl) rfl ?_
                  dsimp only [List.set]
                  refine s_aload_n C 84 dX3_findPlaces_83 rfl rfl ?_
                  refine s_iload C 86 dX3_findPlaces_84 rfl rfl ?_
                  refine s_iload C 88 dX3_findPlaces_86 rfl rfl ?_
                  refine s_iastU C 89 dX3_findPlaces_88 rfl hRw (by first | decide | omega) (by omega) (by omega) (fun M8 U9 => ?_)
                  have hO := U9.o hRw hO (by first | decide | omega)
                  have hL := U9.o hRw hL (by first | decide | omega)
                  have hI := U9.o hRw hI (by first | decide | omega)
                  have hRn := U9.o hRw hRn (by first | decide | omega)
                  have hR := U9.o hRw hR (by first | decide | omega)
                  have hF := hF.put U9 hRw (by first | decide | (simp; done) | (simp; omega) | (simp [*]; done))
                  have hRw := U9.s
                  refine s_goto C 64 dX3_findPlaces_89 (by decide) ?_
                  exact ih64 (c2 + 1) _ _ (by omega) (by omega) (by omega) (by omega) (fun l h1 h2 => by by_cases e : l = c2 + 1; (· rw [e, pk_us, hnew]; rfl); rw [pk_un e]; exact hd l h1 (by omega)) hRw hF

/-! pure words: the shortest pieces -/
def pKb (T mo : Nat) (ln : Nat → Nat) (fl : Nat → Nat → Int32) (t s l : Nat) : Bool := pcB mo (ln t) (fl t) s l && aloB T mo ln fl t s l
def pSb (T mo od : Nat) (ln : Nat → Nat) (fl : Nat → Nat → Int32) (us : Nat → Int32) (t s l : Nat) : Bool := pcB mo (ln t) (fl t) s l && firB T mo od ln fl us t s l
def bPR (P : Nat → Nat → Bool) (s l : Nat) : Prop := P s l = true
def dD (start l s x : Nat) : Prop := s < start ∨ (s = start ∧ x < l)
def dS (start s _x : Nat) : Prop := s < start
def dT (_s _x : Nat) : Prop := True
/-- the shortest, and of these the first -/
def bst (P : Nat → Nat → Bool) : Nat × Nat := match fnd (fun l => (fnd (fun s => P s l) 0 25).isSome) 1 24 with
  | none => (0, 0)
  | some l => ((fnd (fun s => P s l) 0 25).getD 0, l)
theorem bst_of {P : Nat → Nat → Bool} {ks kl : Nat} (h : bsR (bPR P) dT ks kl) (hb : ∀ s l, P s l = true → s < 25 ∧ 0 < l ∧ l ≤ 24) : bst P = (ks, kl) := by
  have hS : ∀ l, (fnd (fun s => P s l) 0 25).isSome = true ↔ ∃ s, P s l = true := by
    intro l
    cases e : fnd (fun s => P s l) 0 25 with
    | none =>
      refine ⟨fun q => (by cases q), fun ⟨s, hs⟩ => ?_⟩
      have := (fnd_none _ _).mp e s (Nat.zero_le _) (by have := (hb s l hs).1; omega)
      rw [hs] at this
      cases this
    | some s => exact ⟨fun _ => ⟨s, ((fnd_some _ _ _).mp e).2.2.1⟩, fun _ => rfl⟩
  unfold bst
  rcases h with ⟨rfl, rfl, h3⟩ | ⟨h0, -, h2, h3⟩
  · rw [(fnd_none _ _).mpr]
    intro l h1 _
    cases e : (fnd (fun s => P s l) 0 25).isSome with
    | false => rfl
    | true =>
      obtain ⟨s, hs⟩ := (hS l).mp e
      exact absurd hs (h3 s l trivial (by omega))
  · have hp : P ks kl = true := h2
    have hbb := hb ks kl hp
    rw [show fnd (fun l => (fnd (fun s => P s l) 0 25).isSome) 1 24 = some kl from (fnd_some _ _ _).mpr ⟨by omega, by omega, (hS kl).mpr ⟨ks, hp⟩, fun l g1 g2 => by
      cases e : (fnd (fun s => P s l) 0 25).isSome with
      | false => rfl
      | true =>
        obtain ⟨s, hs⟩ := (hS l).mp e
        have := h3 s l trivial (by omega) hs
        omega⟩]
    show ((fnd (fun s => P s kl) 0 25).getD 0, kl) = (ks, kl)
    rw [show fnd (fun s => P s kl) 0 25 = some ks from (fnd_some _ _ _).mpr ⟨Nat.zero_le _, by omega, hp, fun s _ g2 => by
      cases e : P s kl with
      | false => rfl
      | true => have := h3 s kl trivial h0 e; omega⟩]
    rfl
theorem cnB_lt {f : Nat → Int32} (h : f 0 ≠ nI 32) : ∀ n, cnB f (n + 1) ≤ n := by
  intro n
  induction n with
  | zero => rw [cnB, if_neg h]; exact Nat.le_refl _
  | succ n ih => rw [cnB]; split <;> omega
theorem TV.cn {n : Nat} {f : Nat → Int32} (h : TV n f) : 1 + cnB f n ≤ n := by
  obtain ⟨h1, -, h3, -⟩ := h
  cases n with
  | zero => omega
  | succ n => have := cnB_lt h3 n; omega
theorem TV.sr {n mo : Nat} {f : Nat → Int32} (h : TV n f) : srN mo n f ≤ 24 := by
  have := h.cn
  have := h.2.1
  unfold srN rN
  split <;> omega
theorem mtB_q {q q' r : Nat → Int32} {len p : Nat} (h : ∀ x, x < len → q x = q' x) : mtB q r len p = mtB q' r len p := by
  unfold mtB
  refine decide_eq_decide.mpr ⟨fun g x hx => by rw [← h x hx]; exact g x hx, fun g x hx => by rw [h x hx]; exact g x hx⟩
theorem plc_q {mo n m : Nat} {f ini q q' : Nat → Int32} {len : Nat} (h : ∀ x, x < len → q x = q' x) : plc mo n m f ini q len = plc mo n m f ini q' len := by
  unfold plc
  refine fnd_cong _ _ (fun p _ _ => ?_)
  simp only [mtB_q h]
/-- a piece of a title is in it -/
theorem pl2_own {mo : Nat} {ln : Nat → Nat} {fl : Nat → Nat → Int32} {t s l : Nat} (h : pcB mo (ln t) (fl t) s l = true) : ∃ p, pl2 mo ln fl t s l t = some p ∧ p ≤ s := by
  unfold pcB at h
  simp only [Bool.and_eq_true, decide_eq_true_eq] at h
  cases e : pl2 mo ln fl t s l t with
  | none =>
    have := plc_none e s
    unfold mtP mtB at this
    have h2 : (decide (s + l ≤ rN mo (ln t) (1 + cnB (fl t) (ln t)))) = true := decide_eq_true h.2.2.1
    rw [h.1, h2] at this
    simp [srG] at this
  | some p =>
    refine ⟨p, rfl, ?_⟩
    have hh := plc_some e
    by_cases hps : p ≤ s
    · exact hps
    · have := hh.2 s (by omega)
      unfold mtP mtB at this
      have h2 : (decide (s + l ≤ rN mo (ln t) (1 + cnB (fl t) (ln t)))) = true := decide_eq_true h.2.2.1
      rw [h.1, h2] at this
      simp [srG] at this
theorem pl2_lt {mo : Nat} {ln : Nat → Nat} {fl : Nat → Nat → Int32} {t s l u j : Nat} (h : pl2 mo ln fl t s l u = some j) (hu : TV (ln u) (fl u)) : j < 25 := by
  have h1 := plc_lt h
  have h2 := hu.sr (mo := mo)
  unfold srN at h2
  omega
theorem pcB_b {mo n : Nat} {f : Nat → Int32} {s l : Nat} (h : pcB mo n f s l = true) (hv : TV n f) : s < srN mo n f ∧ 0 < l ∧ l ≤ 24 ∧ s < 25 := by
  unfold pcB at h
  simp only [Bool.and_eq_true, decide_eq_true_eq] at h
  have := hv.sr (mo := mo)
  omega
theorem yR.row {M M1 : mM} {y ks kl ss sl pA i : Nat} {rows : Nat → Nat → Int32} {gA : Nat → Option Nat} {ra : Nat → Nat} {h1 : Nat → Int32} (hY : M y = some (40, .inl (4, [.ref pA, .int (nI ks), .int (nI kl), .int (nI ss), .int (nI sl)]))) (hA0 : M pA = some (41, .inr (4, 16, .inr gA))) (hgA : ∀ i, i < 16 → gA i = some (ra i)) (hinj : ∀ i j, i < 16 → j < 16 → ra i = ra j → i = j) (hrw : ∀ i, i < 16 → M (ra i) = some (42, .inr (0, 25, .inl (rows i)))) (hks : ks < 100) (hkl : kl < 100) (hss : ss < 100) (hsl : sl < 100) (hi : i < 16) (hF : mY (ra i) M M1) (h : M1 (ra i) = some (42, .inr (0, 25, .inl h1))) : yR M1 y ks kl ss sl (fun u => if u = i then h1 else rows u) ∧ mZ [42] M M1 := by
  have hr := hrw i hi
  refine ⟨⟨pA, gA, ra, hF.at hY (fun q => by rw [q, hr] at hY; cases hY), hF.at hA0 (fun q => by rw [q, hr] at hA0; cases hA0), hgA, hinj, fun j hj => ?_, hks, hkl, hss, hsl⟩, hF.Z hr h (by simp)⟩
  by_cases e : j = i
  · show M1 (ra j) = some (42, .inr (0, 25, .inl (if j = i then h1 else rows j))); rw [if_pos e, e]; exact h
  · show M1 (ra j) = some (42, .inr (0, 25, .inl (if j = i then h1 else rows j))); rw [if_neg e]; exact hF.at (hrw j hj) (fun q => e (hinj j i hj hi q))
theorem bsR.up2 {P : Nat → Nat → Prop} {start l ks kl : Nat} (h : bsR P (dD start l) ks kl) (hn : ¬ P start l) : bsR P (dD start (l + 1)) ks kl :=
  h.up (fun s x _ g => by unfold dD at g ⊢; omega) (fun s x _ g hp => by
    unfold dD at g ⊢
    by_cases e : s = start ∧ x = l
    · exact absurd (e.1 ▸ e.2 ▸ hp) hn
    · left; omega)
theorem bsR.le {P : Nat → Nat → Prop} {start l ks kl : Nat} (h : bsR P (dD start l) ks kl) : ks ≤ start := by
  rcases h with ⟨-, h1, -⟩ | ⟨-, h1, -⟩
  · omega
  · unfold dD at h1; omega
theorem bsR.up3 {P : Nat → Nat → Prop} {start l ks kl : Nat} (h : bsR P (dD start l) ks kl) (h0 : 0 < kl) (hl : kl ≤ l) : bsR P (dD start (l + 1)) ks kl :=
  h.up (fun s x _ g => by unfold dD at g ⊢; omega) (fun s x _ g hp => by
    have := h.le
    unfold dD at g ⊢
    omega)
theorem bsR.hit2 {P : Nat → Nat → Prop} {start l ks kl : Nat} (h : bsR P (dD start l) ks kl) (h0 : 0 < l) (hlt : kl = 0 ∨ l < kl) (hp : P start l) : bsR P (dD start (l + 1)) start l :=
  h.hit h0 hlt hp (by unfold dD; omega) (fun s x _ g => by unfold dD at g ⊢; omega)
theorem bfin {P : Nat → Nat → Prop} {start l ks kl : Nat} (h : bsR P (dD start l) ks kl) (h2 : ∀ s x, s = start → l ≤ x → P s x → 0 < kl ∧ kl ≤ x ∧ ks ≤ s) : bsR P (dS (start + 1)) ks kl :=
  h.up (fun s x _ g => by unfold dD at g; unfold dS; omega) (fun s x _ g hp => by
    unfold dS at g
    unfold dD
    by_cases e : s = start ∧ l ≤ x
    · exact Or.inr (h2 s x e.1 e.2 hp)
    · left; omega)
theorem pcB_of {mo n : Nat} {f : Nat → Int32} {s l : Nat} (h : pcB mo n f s l = true) : 0 < l ∧ s + l ≤ srN mo n f := by
  unfold pcB at h
  simp only [Bool.and_eq_true, decide_eq_true_eq] at h
  exact ⟨h.2.1, h.2.2.1⟩
theorem pKb_c {T mo t s l : Nat} {ln : Nat → Nat} {fl : Nat → Nat → Int32} (h : bPR (pKb T mo ln fl t) s l) : pcB mo (ln t) (fl t) s l = true := by
  unfold bPR pKb at h
  simp only [Bool.and_eq_true] at h
  exact h.1
theorem pSb_c {T mo od t s l : Nat} {ln : Nat → Nat} {fl : Nat → Nat → Int32} {us : Nat → Int32} (h : bPR (pSb T mo od ln fl us t) s l) : pcB mo (ln t) (fl t) s l = true := by
  unfold bPR pSb at h
  simp only [Bool.and_eq_true] at h
  exact h.1

set_option maxRecDepth 100000 in
set_option maxHeartbeats 4000000 in
theorem c_lookFrom {G : mG} {M : mM} {k s T mo od ql : Nat} {q : Nat → Int32} {ln : Nat → Nat} {fl : Nat → Nat → Int32} {us : Nat → Int32} (hs : sR G M k s T mo od ql q ln fl us) {y ks kl ss sl : Nat} {rows : Nat → Nat → Int32} (hy : yR M y ks kl ss sl rows) {t start run N : Nat} {rr : Nat → Int32} (htT : t < T) (hRn : M run = some (1, .inr (1, N, .inl rr))) (hN : N = srN mo (ln t) (fl t)) (hrr : ∀ k, k < N → rr k = srG mo (ln t) (fl t) k) (hst : start < N) (hsp : spB mo (ln t) (1 + cnB (fl t) (ln t)) (fl t) start = true) (hbk : bsR (bPR (pKb T mo ln fl t)) (dS start) ks kl) (hbs : bsR (bPR (pSb T mo od ln fl us t)) (dS start) ss sl) : CC G iX3_lookAtPiecesFrom 0 0 [.ref y, .int (nI start), .ref run, .ref s, .int (nI t)] M (fun r M1 => r = none ∧ ∃ ks9 kl9 ss9 sl9 rw9, yR M1 y ks9 kl9 ss9 sl9 rw9 ∧ bsR (bPR (pKb T mo ln fl t)) (dS (start + 1)) ks9 kl9 ∧ bsR (bPR (pSb T mo od ln fl us t)) (dS (start + 1)) ss9 sl9 ∧ mZ [40, 42] M M1) := by
  refine CC.of rfl (Nat.le_of_ble_eq_true rfl) rfl (fun X C Tr => ?_)
  show V X 0 0 0 [some (.ref y), some (.int (nI start)), some (.ref run), some (.ref s), some (.int (nI t)), none, none] [] M
  have hsx := hs
  obtain ⟨la, qa, cap, g, ad, ifn, hS, hL, hQ, hT, hmo, hod, hql, hA⟩ := hsx
  have hA0v : ∀ u, u < T → TV (ln u) (fl u) := fun u hu => (hA u hu).2.2.2
  have hN24 : N ≤ 24 := by rw [hN]; exact (hA0v t htT).sr
  obtain ⟨pA, gA, ra, hY, hA0, hgA, hinj, hrw, hks, hkl, hss, hsl⟩ := hy
  refine s_aload_n C 1 dX3_lookAtPiecesFrom_0 rfl rfl ?_
  refine s_alen C 2 dX3_lookAtPiecesFrom_1 rfl hRn (by decide) ?_
  refine s_iload_n C 3 dX3_lookAtPiecesFrom_2 rfl rfl ?_
  refine s_isubN C 4 dX3_lookAtPiecesFrom_3 rfl (by omega) ?_
  refine s_aload_n C 5 dX3_lookAtPiecesFrom_4 rfl rfl ?_
  refine s_invV C 8 0 0 [.int (nI (N - start))] (mRv_of hY rfl) dX3_lookAtPiecesFrom_5 rfl m_X3_62 (c_longestWanted ⟨pA, gA, ra, hY, hA0, hgA, hinj, hrw, hks, hkl, hss, hsl⟩) rfl rfl rfl ⟨by decide, by decide⟩ (Nat.le_of_ble_eq_true rfl) (by omega) (by omega) ?_
  rintro _ M1 ⟨rfl, rfl⟩
  dsimp only [Option.toList, List.cons_append, List.nil_append]
  have hlw : (if kl = 0 ∨ sl = 0 then 24 else max kl sl - 1) ≤ 200 ∧ ((if kl = 0 ∨ sl = 0 then 24 else max kl sl - 1) = 24 ∨ (0 < kl ∧ 0 < sl ∧ (if kl = 0 ∨ sl = 0 then 24 else max kl sl - 1) = max kl sl - 1)) := by split <;> omega
  refine s_minN C 11 dX3_lookAtPiecesFrom_8 rfl mm_X3_66 rfl (by decide) (Nat.le_of_ble_eq_true rfl) (by omega) (by omega) ?_
  refine s_istore C 13 dX3_lookAtPiecesFrom_11 rfl rfl rfl ?_
  dsimp only [List.set]
  generalize hmost : min (N - start) (if kl = 0 ∨ sl = 0 then 24 else max kl sl - 1) = most
  have hm24 : most ≤ 24 := by have := (hA t htT).2.2.2.sr (mo := mo); omega
  have hmN : start + most ≤ N := by omega
  have hrn := hRn
  refine s_iconst C 14 (nI 0) dX3_lookAtPiecesFrom_13 rfl (by decide) ?_
  refine s_istore C 16 dX3_lookAtPiecesFrom_14 rfl rfl rfl ?_
  dsimp only [List.set]
  have hF : mZ [40, 42] M M := mZ.rf
  have hy0 := (⟨pA, gA, ra, hY, hA0, hgA, hinj, hrw, hks, hkl, hss, hsl⟩ : yR M y ks kl ss sl rows)
  suffices lp16 : ∀ (fu16 : Nat) (i : Nat) (rw9 : Nat → Nat → Int32) (M9 : mM), T - i < fu16 → i ≤ T → (∀ u, u < i → ∀ l, 0 < l → l ≤ most → rw9 u l = oI (pl2 mo ln fl t start l u)) → yR M9 y ks kl ss sl rw9 → mZ [40, 42] M M9 → V X 0 0 16 [some (.ref y), some (.int (nI start)), some (.ref run), some (.ref s), some (.int (nI t)), some (.int (nI most)), some (.int (nI i))] [] M9 from lp16 (T + 1) 0 _ _ (by omega) (by omega) (fun u hu => by omega) hy0 hF
  intro fu16
  induction fu16 with
  | zero => intro i rw9 M9 hi0 hi hd hy9 hF; omega
  | succ fu16 ih16 =>
    intro i rw9 M9 hi0 hi hd hy9 hF
    have hs9 := hs.at hF (by simp) (by simp) (by simp; omega) (by simp; omega) (by simp; omega) (by simp; omega)
    obtain ⟨la, qa, cap, g, ad, ifn, hS, hL, hQ, hT, hmo, hod, hql, hA⟩ := hs9
    have hRn := hF.at hrn (by simp)
    have hy9b := hy9
    obtain ⟨pA, gA, ra, hY, hA0, hgA, hinj, hrw, hks, hkl, hss, hsl⟩ := hy9
    refine s_iload C 18 dX3_lookAtPiecesFrom_16 rfl rfl ?_
    refine s_aload_n C 19 dX3_lookAtPiecesFrom_18 rfl rfl ?_
    refine s_getf C 22 dX3_lookAtPiecesFrom_19 rfl f_X3_35 hS rfl ?_
    refine s_invV C 25 0 0 [.int (nI i)] (lR_rv hL) dX3_lookAtPiecesFrom_22 rfl m_X3_72 (c_size hL) rfl rfl rfl ⟨by decide, by decide⟩ (Nat.le_of_ble_eq_true rfl) (by omega) (by omega) ?_
    rintro _ M2 ⟨rfl, rfl⟩
    dsimp only [Option.toList, List.cons_append, List.nil_append]
    refine s_icmp_geN C 74 28 dX3_lookAtPiecesFrom_25 (by decide) rfl (by omega) (by omega) (fun z25 => ?_) (fun z25 => ?_)
    · skip
      have hd2 : ∀ u, u < T → ∀ l, 0 < l → l ≤ most → rw9 u l = oI (pl2 mo ln fl t start l u) := fun u hu => hd u (by omega)
      clear hd
      have hy8 := hy9b
      have hF8 := hF
      refine s_iconst C 75 (nI 1) dX3_lookAtPiecesFrom_74 rfl (by decide) ?_
      refine s_istore C 77 dX3_lookAtPiecesFrom_75 rfl rfl rfl ?_
      dsimp only [List.set]
      have hbk9 : bsR (bPR (pKb T mo ln fl t)) (dD start 1) ks kl := hbk.up (fun s x _ h => Or.inl h) (fun s x hx h hp => Or.inl (by rcases h with h | h; (· exact h); omega))
      have hbs9 : bsR (bPR (pSb T mo od ln fl us t)) (dD start 1) ss sl := hbs.up (fun s x _ h => Or.inl h) (fun s x hx h hp => Or.inl (by rcases h with h | h; (· exact h); omega))
      suffices lp77 : ∀ (fu77 : Nat) (l ks9 kl9 ss9 sl9 : Nat) (M7 : mM), most + 1 - l < fu77 → l ≤ most + 1 → 0 < l → yR M7 y ks9 kl9 ss9 sl9 rw9 → mZ [40, 42] M M7 → bsR (bPR (pKb T mo ln fl t)) (dD start l) ks9 kl9 → bsR (bPR (pSb T mo od ln fl us t)) (dD start l) ss9 sl9 → (0 < kl → 0 < kl9 ∧ kl9 ≤ kl) → (0 < sl → 0 < sl9 ∧ sl9 ≤ sl) → V X 0 0 77 [some (.ref y), some (.int (nI start)), some (.ref run), some (.ref s), some (.int (nI t)), some (.int (nI most)), some (.int (nI l))] [] M7 from lp77 (most + 1) 1 ks kl ss sl _ (by omega) (by omega) (by omega) hy8 hF8 hbk9 hbs9 (fun h => ⟨h, Nat.le_refl _⟩) (fun h => ⟨h, Nat.le_refl _⟩)
      intro fu77
      induction fu77 with
      | zero => intro l ks9 kl9 ss9 sl9 M7 hl0 hl hl1 hy7 hF hbk9 hbs9 hk0 hs0; omega
      | succ fu77 ih77 =>
        intro l ks9 kl9 ss9 sl9 M7 hl0 hl hl1 hy7 hF hbk9 hbs9 hk0 hs0
        refine s_iload C 79 dX3_lookAtPiecesFrom_77 rfl rfl ?_
        refine s_iload C 81 dX3_lookAtPiecesFrom_79 rfl rfl ?_
        refine s_icmp_gtN C 184 84 dX3_lookAtPiecesFrom_81 (by decide) rfl (by omega) (by omega) (fun z81 => ?_) (fun z81 => ?_)
        · skip
          exact s_vret C dX3_lookAtPiecesFrom_184 Tr rfl ⟨rfl, _, _, _, _, _, hy7, bfin hbk9 (fun s x hx hs hp => by have hb := pcB_of (pKb_c hp); have := hbk9.le; have := hk0; omega), bfin hbs9 (fun s x hx hs hp => by have hb := pcB_of (pSb_c hp); have := hbs9.le; have := hs0; omega), hF⟩
        · skip
          have hRn := hF.at hrn (by simp)
          have hpl : ∀ u, u < T → rw9 u l = oI (pl2 mo ln fl t start l u) := fun u hu => hd2 u hu l hl1 (by omega)
          have hpb : ∀ u, u < T → ∀ j, (pl2 mo ln fl t start l u) = some j → j < 1000 := fun u hu j hj => Nat.lt_of_lt_of_le (pl2_lt hj (hA0v u hu)) (by decide)
          have hch : rr (start + l - 1) = srG mo (ln t) (fl t) (start + l - 1) := hrr _ (by omega)
          have j178 : ∀ (ks8 kl8 ss8 sl8 : Nat) (M8 : mM), yR M8 y ks8 kl8 ss8 sl8 rw9 → mZ [40, 42] M M8 → bsR (bPR (pKb T mo ln fl t)) (dD start (l + 1)) ks8 kl8 → bsR (bPR (pSb T mo od ln fl us t)) (dD start (l + 1)) ss8 sl8 → (0 < kl → 0 < kl8 ∧ kl8 ≤ kl) → (0 < sl → 0 < sl8 ∧ sl8 ≤ sl) → V X 0 0 178 [some (.ref y), some (.int (nI start)), some (.ref run), some (.ref s), some (.int (nI t)), some (.int (nI most)), some (.int (nI l))] [] M8 := by
            intro ks8 kl8 ss8 sl8 M8 hy8 hF hbk8 hbs8 hk8 hs8
            refine s_iinc C 181 (nI (l + 1)) dX3_lookAtPiecesFrom_178 rfl rfl (by rw [← nI_add]; rfl) rfl ?_
            dsimp only [List.set]
            refine s_goto C 77 dX3_lookAtPiecesFrom_181 (by decide) ?_
            exact ih77 (l + 1) _ _ _ _ _ (by omega) (by omega) (by omega) hy8 hF hbk8 hbs8 hk8 hs8
          refine s_aload_n C 85 dX3_lookAtPiecesFrom_84 rfl rfl ?_
          refine s_iload_n C 86 dX3_lookAtPiecesFrom_85 rfl rfl ?_
          refine s_iload C 88 dX3_lookAtPiecesFrom_86 rfl rfl ?_
          refine s_iaddN C 89 dX3_lookAtPiecesFrom_88 rfl ?_
          refine s_iconst C 90 (nI 1) dX3_lookAtPiecesFrom_89 rfl (by decide) ?_
          refine s_isubN C 91 dX3_lookAtPiecesFrom_90 rfl (by omega) ?_
          refine s_cald C 92 dX3_lookAtPiecesFrom_91 rfl hRn (by omega) (by omega) ?_
          refine s_bipush C 94 (nI 32) dX3_lookAtPiecesFrom_92 rfl (by decide) ?_
          refine s_icmp_ne C 100 97 dX3_lookAtPiecesFrom_94 (by decide) rfl (fun z94 => ?_) (fun z94 => ?_)
          · skip
            have hyc : pcB mo (ln t) (fl t) start l = true := by unfold pcB; rw [hsp, Bool.true_and]; exact decide_eq_true ⟨hl1, by show start + l ≤ srN mo (ln t) (fl t); omega, by rw [← hch]; first | exact z94 | exact Classical.not_not.mp z94⟩
            have j139 : ∀ (ks8 kl8 : Nat) (M8 : mM), yR M8 y ks8 kl8 ss9 sl9 rw9 → mZ [40, 42] M M8 → bsR (bPR (pKb T mo ln fl t)) (dD start (l + 1)) ks8 kl8 → (0 < kl → 0 < kl8 ∧ kl8 ≤ kl) → V X 0 0 139 [some (.ref y), some (.int (nI start)), some (.ref run), some (.ref s), some (.int (nI t)), some (.int (nI most)), some (.int (nI l))] [] M8 := by
              intro ks8 kl8 M8 hy8 hF hbk8 hk8
              have hs9 := hs.at hF (by simp) (by simp) (by simp; omega) (by simp; omega) (by simp; omega) (by simp; omega)
              obtain ⟨pA, gA, ra, hY, hA0, hgA, hinj, hrw, hks9, hkl9, hss9, hsl9⟩ := hy8
              have hFy : mZ [40, 42] M8 M8 := mZ.rf
              have hyy : yR M8 y ks8 kl8 ss9 sl9 rw9 := ⟨pA, gA, ra, hY, hA0, hgA, hinj, hrw, hks9, hkl9, hss9, hsl9⟩
              refine s_aload_n C 140 dX3_lookAtPiecesFrom_139 rfl rfl ?_
              refine s_invV C 143 0 0 [] (mRv_of hY rfl) dX3_lookAtPiecesFrom_140 rfl m_X3_87 (c_hasShortcut ⟨pA, gA, ra, hY, hA0, hgA, hinj, hrw, hks9, hkl9, hss9, hsl9⟩) rfl rfl rfl ⟨by decide, by decide⟩ (Nat.le_of_ble_eq_true rfl) (by omega) (by omega) ?_
              rintro _ M3 ⟨rfl, rfl⟩
              dsimp only [Option.toList, List.cons_append, List.nil_append]
              refine s_if_eqB C 155 146 dX3_lookAtPiecesFrom_143 (by decide) rfl (fun z143 => ?_) (fun z143 => ?_)
              · skip
                have hlt : sl9 = 0 ∨ l < sl9 := Or.inl (by have := of_decide_eq_false z143; omega)
                refine s_aload_n C 156 dX3_lookAtPiecesFrom_155 rfl rfl ?_
                refine s_iload C 158 dX3_lookAtPiecesFrom_156 rfl rfl ?_
                refine s_aload_n C 159 dX3_lookAtPiecesFrom_158 rfl rfl ?_
                refine s_iload C 161 dX3_lookAtPiecesFrom_159 rfl rfl ?_
                obtain ⟨own, hown, howb⟩ := pl2_own hyc
                refine s_invV C 164 0 0 [] (mRv_of hY rfl) dX3_lookAtPiecesFrom_161 rfl m_X3_90 (c_isFirstFor (t := t) (own := own) (pls := fun u => (pl2 mo ln fl t start l u)) hs9 ⟨pA, gA, ra, hY, hA0, hgA, hinj, hrw, hks9, hkl9, hss9, hsl9⟩ hpl hpb (by omega) htT hown) rfl rfl rfl ⟨by decide, by decide⟩ (Nat.le_of_ble_eq_true rfl) (by omega) (by omega) ?_
                rintro _ M4 ⟨rfl, rfl⟩
                dsimp only [Option.toList, List.cons_append, List.nil_append]
                rw [show decide (∀ u, u < T → u ≠ t → ∀ p, (pl2 mo ln fl t start l u) = some p → cbB od u p t own ln fl us = false) = firB T mo od ln fl us t start l by unfold firB; rw [hown]; rfl]
                refine s_if_eqB C 178 167 dX3_lookAtPiecesFrom_164 (by decide) rfl (fun z164 => ?_) (fun z164 => ?_)
                · skip
                  have hns : ¬ (bPR (pSb T mo od ln fl us t)) start l := by unfold bPR pSb; rw [z164]; simp
                  exact j178 _ _ _ _ _ hyy hF hbk8 (hbs9.up2 hns) hk8 hs0
                · skip
                  have hyp : (bPR (pSb T mo od ln fl us t)) start l := by unfold bPR pSb; rw [hyc, z164]; rfl
                  have hFq : mZ [40] M8 M8 := mZ.rf
                  refine s_aload_n C 168 dX3_lookAtPiecesFrom_167 rfl rfl ?_
                  refine s_iload_n C 169 dX3_lookAtPiecesFrom_168 rfl rfl ?_
                  refine s_putU C 172 dX3_lookAtPiecesFrom_169 rfl p_X3_23 hY (by first | decide | omega) rfl rfl rfl (fs' := [.ref pA, .int (nI ks8), .int (nI kl8), .int (nI start), .int (nI sl9)]) rfl (fun M5 U6 => ?_)
                  have hA0 := U6.o hY hA0 (by first | decide | omega)
                  have hFq := hFq.put U6 hY (by first | decide | (simp; done) | (simp; omega) | (simp [*]; done))
                  have hY := U6.s
                  refine s_aload_n C 173 dX3_lookAtPiecesFrom_172 rfl rfl ?_
                  refine s_iload C 175 dX3_lookAtPiecesFrom_173 rfl rfl ?_
                  refine s_putU C 178 dX3_lookAtPiecesFrom_175 rfl p_X3_26 hY (by first | decide | omega) rfl rfl rfl (fs' := [.ref pA, .int (nI ks8), .int (nI kl8), .int (nI start), .int (nI l)]) rfl (fun M7 U8 => ?_)
                  have hA0 := U8.o hY hA0 (by first | decide | omega)
                  have hFq := hFq.put U8 hY (by first | decide | (simp; done) | (simp; omega) | (simp [*]; done))
                  have hY := U8.s
                  exact j178 _ _ start l _ ⟨pA, gA, ra, hY, hA0, hgA, hinj, fun i hi => hFq.at (hrw i hi) (by simp), hks9, hkl9, by omega, by omega⟩ (hF.tr (hFq.mono (by simp))) hbk8 (hbs9.hit2 hl1 hlt hyp) hk8 (fun h => ⟨hl1, by have := hs0 h; omega⟩)
              · skip
                refine s_iload C 148 dX3_lookAtPiecesFrom_146 rfl rfl ?_
                refine s_aload_n C 149 dX3_lookAtPiecesFrom_148 rfl rfl ?_
                refine s_getf C 152 dX3_lookAtPiecesFrom_149 rfl f_X3_26 hY rfl ?_
                refine s_icmp_geN C 178 155 dX3_lookAtPiecesFrom_152 (by decide) rfl (by omega) (by omega) (fun z152 => ?_) (fun z152 => ?_)
                · skip
                  have hkp := of_decide_eq_true z143
                  exact j178 _ _ _ _ _ hyy hF hbk8 (hbs9.up3 hkp (by omega)) hk8 hs0
                · skip
                  have hlt : sl9 = 0 ∨ l < sl9 := Or.inr (by omega)
                  refine s_aload_n C 156 dX3_lookAtPiecesFrom_155 rfl rfl ?_
                  refine s_iload C 158 dX3_lookAtPiecesFrom_156 rfl rfl ?_
                  refine s_aload_n C 159 dX3_lookAtPiecesFrom_158 rfl rfl ?_
                  refine s_iload C 161 dX3_lookAtPiecesFrom_159 rfl rfl ?_
                  obtain ⟨own, hown, howb⟩ := pl2_own hyc
                  refine s_invV C 164 0 0 [] (mRv_of hY rfl) dX3_lookAtPiecesFrom_161 rfl m_X3_90 (c_isFirstFor (t := t) (own := own) (pls := fun u => (pl2 mo ln fl t start l u)) hs9 ⟨pA, gA, ra, hY, hA0, hgA, hinj, hrw, hks9, hkl9, hss9, hsl9⟩ hpl hpb (by omega) htT hown) rfl rfl rfl ⟨by decide, by decide⟩ (Nat.le_of_ble_eq_true rfl) (by omega) (by omega) ?_
                  rintro _ M9 ⟨rfl, rfl⟩
                  dsimp only [Option.toList, List.cons_append, List.nil_append]
                  rw [show decide (∀ u, u < T → u ≠ t → ∀ p, (pl2 mo ln fl t start l u) = some p → cbB od u p t own ln fl us = false) = firB T mo od ln fl us t start l by unfold firB; rw [hown]; rfl]
                  refine s_if_eqB C 178 167 dX3_lookAtPiecesFrom_164 (by decide) rfl (fun z164 => ?_) (fun z164 => ?_)
                  · skip
                    have hns : ¬ (bPR (pSb T mo od ln fl us t)) start l := by unfold bPR pSb; rw [z164]; simp
                    exact j178 _ _ _ _ _ hyy hF hbk8 (hbs9.up2 hns) hk8 hs0
                  · skip
                    have hyp : (bPR (pSb T mo od ln fl us t)) start l := by unfold bPR pSb; rw [hyc, z164]; rfl
                    have hFq : mZ [40] M8 M8 := mZ.rf
                    refine s_aload_n C 168 dX3_lookAtPiecesFrom_167 rfl rfl ?_
                    refine s_iload_n C 169 dX3_lookAtPiecesFrom_168 rfl rfl ?_
                    refine s_putU C 172 dX3_lookAtPiecesFrom_169 rfl p_X3_23 hY (by first | decide | omega) rfl rfl rfl (fs' := [.ref pA, .int (nI ks8), .int (nI kl8), .int (nI start), .int (nI sl9)]) rfl (fun M10 U11 => ?_)
                    have hA0 := U11.o hY hA0 (by first | decide | omega)
                    have hFq := hFq.put U11 hY (by first | decide | (simp; done) | (simp; omega) | (simp [*]; done))
                    have hY := U11.s
                    refine s_aload_n C 173 dX3_lookAtPiecesFrom_172 rfl rfl ?_
                    refine s_iload C 175 dX3_lookAtPiecesFrom_173 rfl rfl ?_
                    refine s_putU C 178 dX3_lookAtPiecesFrom_175 rfl p_X3_26 hY (by first | decide | omega) rfl rfl rfl (fs' := [.ref pA, .int (nI ks8), .int (nI kl8), .int (nI start), .int (nI l)]) rfl (fun M12 U13 => ?_)
                    have hA0 := U13.o hY hA0 (by first | decide | omega)
                    have hFq := hFq.put U13 hY (by first | decide | (simp; done) | (simp; omega) | (simp [*]; done))
                    have hY := U13.s
                    exact j178 _ _ start l _ ⟨pA, gA, ra, hY, hA0, hgA, hinj, fun i hi => hFq.at (hrw i hi) (by simp), hks9, hkl9, by omega, by omega⟩ (hF.tr (hFq.mono (by simp))) hbk8 (hbs9.hit2 hl1 hlt hyp) hk8 (fun h => ⟨hl1, by have := hs0 h; omega⟩)
            have hy8 := hy7
            have hs9 := hs.at hF (by simp) (by simp) (by simp; omega) (by simp; omega) (by simp; omega) (by simp; omega)
            obtain ⟨pA, gA, ra, hY, hA0, hgA, hinj, hrw, hks9, hkl9, hss9, hsl9⟩ := hy8
            have hFy : mZ [40, 42] M7 M7 := mZ.rf
            refine s_aload_n C 101 dX3_lookAtPiecesFrom_100 rfl rfl ?_
            refine s_invV C 104 0 0 [] (mRv_of hY rfl) dX3_lookAtPiecesFrom_101 rfl m_X3_79 (c_hasKey ⟨pA, gA, ra, hY, hA0, hgA, hinj, hrw, hks9, hkl9, hss9, hsl9⟩) rfl rfl rfl ⟨by decide, by decide⟩ (Nat.le_of_ble_eq_true rfl) (by omega) (by omega) ?_
            rintro _ M14 ⟨rfl, rfl⟩
            dsimp only [Option.toList, List.cons_append, List.nil_append]
            refine s_if_eqB C 116 107 dX3_lookAtPiecesFrom_104 (by decide) rfl (fun z104 => ?_) (fun z104 => ?_)
            · skip
              have hlt : kl9 = 0 ∨ l < kl9 := Or.inl (by have := of_decide_eq_false z104; omega)
              refine s_aload_n C 117 dX3_lookAtPiecesFrom_116 rfl rfl ?_
              refine s_iload C 119 dX3_lookAtPiecesFrom_117 rfl rfl ?_
              refine s_aload_n C 120 dX3_lookAtPiecesFrom_119 rfl rfl ?_
              refine s_iload C 122 dX3_lookAtPiecesFrom_120 rfl rfl ?_
              refine s_invV C 125 0 0 [] (mRv_of hY rfl) dX3_lookAtPiecesFrom_122 rfl m_X3_83 (c_isKnownBy (t := t) (pls := fun u => (pl2 mo ln fl t start l u)) hs9 ⟨pA, gA, ra, hY, hA0, hgA, hinj, hrw, hks9, hkl9, hss9, hsl9⟩ hpl (fun u hu j hj => Nat.lt_of_lt_of_le (hpb u hu j hj) (by decide)) (by omega) htT) rfl rfl rfl ⟨by decide, by decide⟩ (Nat.le_of_ble_eq_true rfl) (by omega) (by omega) ?_
              rintro _ M15 ⟨rfl, rfl⟩
              dsimp only [Option.toList, List.cons_append, List.nil_append]
              refine s_if_eqB C 139 128 dX3_lookAtPiecesFrom_125 (by decide) rfl (fun z125 => ?_) (fun z125 => ?_)
              · skip
                have z125 : aloB T mo ln fl t start l = false := z125
                have hnp : ¬ (bPR (pKb T mo ln fl t)) start l := by unfold bPR pKb; rw [z125]; simp
                exact j139 _ _ _ hy7 hF (hbk9.up2 hnp) hk0
              · skip
                have z125 : aloB T mo ln fl t start l = true := z125
                have hyp : (bPR (pKb T mo ln fl t)) start l := by unfold bPR pKb; rw [hyc, z125]; rfl
                have hFq : mZ [40] M7 M7 := mZ.rf
                refine s_aload_n C 129 dX3_lookAtPiecesFrom_128 rfl rfl ?_
                refine s_iload_n C 130 dX3_lookAtPiecesFrom_129 rfl rfl ?_
                refine s_putU C 133 dX3_lookAtPiecesFrom_130 rfl p_X3_16 hY (by first | decide | omega) rfl rfl rfl (fs' := [.ref pA, .int (nI start), .int (nI kl9), .int (nI ss9), .int (nI sl9)]) rfl (fun M16 U17 => ?_)
                have hA0 := U17.o hY hA0 (by first | decide | omega)
                have hFq := hFq.put U17 hY (by first | decide | (simp; done) | (simp; omega) | (simp [*]; done))
                have hY := U17.s
                refine s_aload_n C 134 dX3_lookAtPiecesFrom_133 rfl rfl ?_
                refine s_iload C 136 dX3_lookAtPiecesFrom_134 rfl rfl ?_
                refine s_putU C 139 dX3_lookAtPiecesFrom_136 rfl p_X3_20 hY (by first | decide | omega) rfl rfl rfl (fs' := [.ref pA, .int (nI start), .int (nI l), .int (nI ss9), .int (nI sl9)]) rfl (fun M18 U19 => ?_)
                have hA0 := U19.o hY hA0 (by first | decide | omega)
                have hFq := hFq.put U19 hY (by first | decide | (simp; done) | (simp; omega) | (simp [*]; done))
                have hY := U19.s
                exact j139 start l _ ⟨pA, gA, ra, hY, hA0, hgA, hinj, fun i hi => hFq.at (hrw i hi) (by simp), by omega, by omega, hss9, hsl9⟩ (hF.tr (hFq.mono (by simp))) (hbk9.hit2 hl1 hlt hyp) (fun h => ⟨hl1, by have := hk0 h; omega⟩)
            · skip
              refine s_iload C 109 dX3_lookAtPiecesFrom_107 rfl rfl ?_
              refine s_aload_n C 110 dX3_lookAtPiecesFrom_109 rfl rfl ?_
              refine s_getf C 113 dX3_lookAtPiecesFrom_110 rfl f_X3_20 hY rfl ?_
              refine s_icmp_geN C 139 116 dX3_lookAtPiecesFrom_113 (by decide) rfl (by omega) (by omega) (fun z113 => ?_) (fun z113 => ?_)
              · skip
                have hkp := of_decide_eq_true z104
                exact j139 _ _ _ hy7 hF (hbk9.up3 hkp (by omega)) hk0
              · skip
                have hlt : kl9 = 0 ∨ l < kl9 := Or.inr (by omega)
                refine s_aload_n C 117 dX3_lookAtPiecesFrom_116 rfl rfl ?_
                refine s_iload C 119 dX3_lookAtPiecesFrom_117 rfl rfl ?_
                refine s_aload_n C 120 dX3_lookAtPiecesFrom_119 rfl rfl ?_
                refine s_iload C 122 dX3_lookAtPiecesFrom_120 rfl rfl ?_
                refine s_invV C 125 0 0 [] (mRv_of hY rfl) dX3_lookAtPiecesFrom_122 rfl m_X3_83 (c_isKnownBy (t := t) (pls := fun u => (pl2 mo ln fl t start l u)) hs9 ⟨pA, gA, ra, hY, hA0, hgA, hinj, hrw, hks9, hkl9, hss9, hsl9⟩ hpl (fun u hu j hj => Nat.lt_of_lt_of_le (hpb u hu j hj) (by decide)) (by omega) htT) rfl rfl rfl ⟨by decide, by decide⟩ (Nat.le_of_ble_eq_true rfl) (by omega) (by omega) ?_
                rintro _ M20 ⟨rfl, rfl⟩
                dsimp only [Option.toList, List.cons_append, List.nil_append]
                refine s_if_eqB C 139 128 dX3_lookAtPiecesFrom_125 (by decide) rfl (fun z125 => ?_) (fun z125 => ?_)
                · skip
                  have z125 : aloB T mo ln fl t start l = false := z125
                  have hnp : ¬ (bPR (pKb T mo ln fl t)) start l := by unfold bPR pKb; rw [z125]; simp
                  exact j139 _ _ _ hy7 hF (hbk9.up2 hnp) hk0
                · skip
                  have z125 : aloB T mo ln fl t start l = true := z125
                  have hyp : (bPR (pKb T mo ln fl t)) start l := by unfold bPR pKb; rw [hyc, z125]; rfl
                  have hFq : mZ [40] M7 M7 := mZ.rf
                  refine s_aload_n C 129 dX3_lookAtPiecesFrom_128 rfl rfl ?_
                  refine s_iload_n C 130 dX3_lookAtPiecesFrom_129 rfl rfl ?_
                  refine s_putU C 133 dX3_lookAtPiecesFrom_130 rfl p_X3_16 hY (by first | decide | omega) rfl rfl rfl (fs' := [.ref pA, .int (nI start), .int (nI kl9), .int (nI ss9), .int (nI sl9)]) rfl (fun M21 U22 => ?_)
                  have hA0 := U22.o hY hA0 (by first | decide | omega)
                  have hFq := hFq.put U22 hY (by first | decide | (simp; done) | (simp; omega) | (simp [*]; done))
                  have hY := U22.s
                  refine s_aload_n C 134 dX3_lookAtPiecesFrom_133 rfl rfl ?_
                  refine s_iload C 136 dX3_lookAtPiecesFrom_134 rfl rfl ?_
                  refine s_putU C 139 dX3_lookAtPiecesFrom_136 rfl p_X3_20 hY (by first | decide | omega) rfl rfl rfl (fs' := [.ref pA, .int (nI start), .int (nI l), .int (nI ss9), .int (nI sl9)]) rfl (fun M23 U24 => ?_)
                  have hA0 := U24.o hY hA0 (by first | decide | omega)
                  have hFq := hFq.put U24 hY (by first | decide | (simp; done) | (simp; omega) | (simp [*]; done))
                  have hY := U24.s
                  exact j139 start l _ ⟨pA, gA, ra, hY, hA0, hgA, hinj, fun i hi => hFq.at (hrw i hi) (by simp), by omega, by omega, hss9, hsl9⟩ (hF.tr (hFq.mono (by simp))) (hbk9.hit2 hl1 hlt hyp) (fun h => ⟨hl1, by have := hk0 h; omega⟩)
          · skip
            have hnc : pcB mo (ln t) (fl t) start l = false := by unfold pcB; rw [decide_eq_false (fun q => q.2.2 (by rw [← hch]; first | exact z94 | exact Classical.not_not.mp z94))]; exact Bool.and_false _
            have hnp : ¬ (bPR (pKb T mo ln fl t)) start l := by unfold bPR pKb; rw [hnc]; simp
            have hns : ¬ (bPR (pSb T mo od ln fl us t)) start l := by unfold bPR pSb; rw [hnc]; simp
            refine s_goto C 178 dX3_lookAtPiecesFrom_97 (by decide) ?_
            exact j178 _ _ _ _ _ hy7 hF (hbk9.up2 hnp) (hbs9.up2 hns) hk0 hs0
    · skip
      refine s_iload C 30 dX3_lookAtPiecesFrom_28 rfl rfl ?_
      refine s_aload_n C 31 dX3_lookAtPiecesFrom_30 rfl rfl ?_
      refine s_getf C 34 dX3_lookAtPiecesFrom_31 rfl f_X3_11 hY rfl ?_
      refine s_alen C 35 dX3_lookAtPiecesFrom_34 rfl hA0 (by decide) ?_
      refine s_icmp_geN C 74 38 dX3_lookAtPiecesFrom_35 (by decide) rfl (by omega) (by omega) (fun z35 => ?_) (fun z35 => ?_)
      · skip
        omega
      · skip
        refine s_aload_n C 39 dX3_lookAtPiecesFrom_38 rfl rfl ?_
        refine s_getf C 42 dX3_lookAtPiecesFrom_39 rfl f_X3_11 hY rfl ?_
        refine s_iload C 44 dX3_lookAtPiecesFrom_42 rfl rfl ?_
        refine s_aald C 45 dX3_lookAtPiecesFrom_44 rfl hA0 (by decide) (by omega) (by omega) ?_
        rw [hgA i (by omega)]
        dsimp only [va_rf]
        have hRow := hrw i (by omega)
        refine s_iload C 47 dX3_lookAtPiecesFrom_45 rfl rfl ?_
        refine s_aload_n C 48 dX3_lookAtPiecesFrom_47 rfl rfl ?_
        refine s_iload_n C 49 dX3_lookAtPiecesFrom_48 rfl rfl ?_
        refine s_aload_n C 50 dX3_lookAtPiecesFrom_49 rfl rfl ?_
        refine s_getf C 53 dX3_lookAtPiecesFrom_50 rfl f_X3_35 hS rfl ?_
        refine s_iload C 55 dX3_lookAtPiecesFrom_53 rfl rfl ?_
        refine s_invV C 58 0 0 [.int (nI start), .ref run, .int (nI most), .ref (ra i)] (lR_rv hL) dX3_lookAtPiecesFrom_55 rfl m_X3_39 (c_get (i := i) hL (by omega) (hA i (by omega)).1) rfl rfl rfl ⟨by decide, by decide⟩ (Nat.le_of_ble_eq_true rfl) (by omega) (by omega) ?_
        rintro _ M25 ⟨rfl, rfl⟩
        dsimp only [Option.toList, List.cons_append, List.nil_append]
        obtain ⟨la, ia, hOa, hLa, hIa⟩ := (hA i (by omega)).2.1
        have hVa := (hA i (by omega)).2.2.2
        have hna : ln i ≤ 24 := hVa.2.1
        have hca := cnB_le (f := fl i) (ln i)
        refine s_castT C 61 dX3_lookAtPiecesFrom_58 rfl hOa rfl k_X3_45 ?_
        refine s_aload_n C 62 dX3_lookAtPiecesFrom_61 rfl rfl ?_
        refine s_getf C 65 dX3_lookAtPiecesFrom_62 rfl f_X3_47 hS rfl ?_
        have hic := hVa.cn
        have hq : ∀ l, l ≤ most → plc mo (ln i) (1 + cnB (fl i) (ln i)) (fl i) (ifn i) (fun k => rr (start + k)) l = (pl2 mo ln fl t start l i) := fun l hl => by rw [plc_ini hVa (hA i (by omega)).2.2.1]; exact plc_q (fun x hx => hrr (start + x) (by omega))
        refine s_invS C 68 0 0 [] dX3_lookAtPiecesFrom_65 rfl m_X3_75 (c_findPlaces hOa hLa hIa hna (by omega) hRow (by decide) (by decide) hRn hmo hst (by omega) hm24 hmN) rfl rfl rfl ⟨by decide, by decide⟩ (Nat.le_of_ble_eq_true rfl) (by omega) (by omega) ?_
        rintro _ M26 ⟨rfl, h1, hd1, hw1, hFw⟩
        dsimp only [Option.toList, List.cons_append, List.nil_append]
        have hyn := yR.row hY hA0 hgA hinj hrw hks hkl hss hsl (show i < 16 by omega) hFw hw1
        refine s_iinc C 71 (nI (i + 1)) dX3_lookAtPiecesFrom_68 rfl rfl (by rw [← nI_add]; rfl) rfl ?_
        dsimp only [List.set]
        refine s_goto C 16 dX3_lookAtPiecesFrom_71 (by decide) ?_
        exact ih16 (i + 1) _ _ (by omega) (by omega) (fun u hu l h1 h2 => by by_cases e : u = i; (· rw [e, if_pos rfl, hd1 l h1 h2, hq l h2]); rw [if_neg e]; exact hd u (by omega) l h1 h2) hyn.1 (hF.tr (hyn.2.mono (by simp)))

set_option maxRecDepth 100000 in
set_option maxHeartbeats 4000000 in
theorem c_look {G : mG} {M : mM} {k s T mo od ql : Nat} {q : Nat → Int32} {ln : Nat → Nat} {fl : Nat → Nat → Int32} {us : Nat → Int32} (hs : sR G M k s T mo od ql q ln fl us) {y ks kl ss sl : Nat} {rows : Nat → Nat → Int32} (hy : yR M y ks kl ss sl rows) {t : Nat} (htT : t < T) : CC G iX3_look 0 0 [.ref y, .ref s, .int (nI t)] M (fun r M1 => r = none ∧ ∃ ks9 kl9 ss9 sl9 rw9, yR M1 y ks9 kl9 ss9 sl9 rw9 ∧ bsR (bPR (pKb T mo ln fl t)) dT ks9 kl9 ∧ bsR (bPR (pSb T mo od ln fl us t)) dT ss9 sl9 ∧ mZ [40, 42] M M1) := by
  refine CC.of rfl (Nat.le_of_ble_eq_true rfl) rfl (fun X C Tr => ?_)
  show V X 0 0 0 [some (.ref y), some (.ref s), some (.int (nI t)), none, none, none] [] M
  have hsx := hs
  obtain ⟨la, qa, cap, g, ad, ifn, hS, hL, hQ, hT, hmo, hod, hql, hA⟩ := hsx
  obtain ⟨pA, gA, ra, hY, hA0, hgA, hinj, hrw, hks, hkl, hss, hsl⟩ := hy
  have hF : mZ [40] M M := mZ.rf
  refine s_aload_n C 1 dX3_look_0 rfl rfl ?_
  refine s_iconst C 2 (nI 0) dX3_look_1 rfl (by decide) ?_
  refine s_putU C 5 dX3_look_2 rfl p_X3_16 hY (by first | decide | omega) rfl rfl rfl (fs' := [.ref pA, .int (nI 0), .int (nI kl), .int (nI ss), .int (nI sl)]) rfl (fun M1 U2 => ?_)
  have hA0 := U2.o hY hA0 (by first | decide | omega)
  have hS := U2.o hY hS (by first | decide | omega)
  have hQ := U2.o hY hQ (by first | decide | omega)
  have hF := hF.put U2 hY (by first | decide | (simp; done) | (simp; omega) | (simp [*]; done))
  have hY := U2.s
  refine s_aload_n C 6 dX3_look_5 rfl rfl ?_
  refine s_iconst C 7 (nI 0) dX3_look_6 rfl (by decide) ?_
  refine s_putU C 10 dX3_look_7 rfl p_X3_20 hY (by first | decide | omega) rfl rfl rfl (fs' := [.ref pA, .int (nI 0), .int (nI 0), .int (nI ss), .int (nI sl)]) rfl (fun M3 U4 => ?_)
  have hA0 := U4.o hY hA0 (by first | decide | omega)
  have hS := U4.o hY hS (by first | decide | omega)
  have hQ := U4.o hY hQ (by first | decide | omega)
  have hF := hF.put U4 hY (by first | decide | (simp; done) | (simp; omega) | (simp [*]; done))
  have hY := U4.s
  refine s_aload_n C 11 dX3_look_10 rfl rfl ?_
  refine s_iconst C 12 (nI 0) dX3_look_11 rfl (by decide) ?_
  refine s_putU C 15 dX3_look_12 rfl p_X3_23 hY (by first | decide | omega) rfl rfl rfl (fs' := [.ref pA, .int (nI 0), .int (nI 0), .int (nI 0), .int (nI sl)]) rfl (fun M5 U6 => ?_)
  have hA0 := U6.o hY hA0 (by first | decide | omega)
  have hS := U6.o hY hS (by first | decide | omega)
  have hQ := U6.o hY hQ (by first | decide | omega)
  have hF := hF.put U6 hY (by first | decide | (simp; done) | (simp; omega) | (simp [*]; done))
  have hY := U6.s
  refine s_aload_n C 16 dX3_look_15 rfl rfl ?_
  refine s_iconst C 17 (nI 0) dX3_look_16 rfl (by decide) ?_
  refine s_putU C 20 dX3_look_17 rfl p_X3_26 hY (by first | decide | omega) rfl rfl rfl (fs' := [.ref pA, .int (nI 0), .int (nI 0), .int (nI 0), .int (nI 0)]) rfl (fun M7 U8 => ?_)
  have hA0 := U8.o hY hA0 (by first | decide | omega)
  have hS := U8.o hY hS (by first | decide | omega)
  have hQ := U8.o hY hQ (by first | decide | omega)
  have hF := hF.put U8 hY (by first | decide | (simp; done) | (simp; omega) | (simp [*]; done))
  have hY := U8.s
  have hFx : mZ [40, 42] M M7 := hF.mono (by simp)
  have hs9 := hs.at hFx (by simp) (by simp) (by simp; omega) (by simp; omega) (by simp; omega) (by simp; omega)
  have hrw9 : ∀ i, i < 16 → M7 (ra i) = some (42, .inr (0, 25, .inl (rows i))) := fun i hi => hF.at (hrw i hi) (by simp)
  have hy0 : yR M7 y 0 0 0 0 rows := ⟨pA, gA, ra, hY, hA0, hgA, hinj, hrw9, by omega, by omega, by omega, by omega⟩
  refine s_aload_n C 21 dX3_look_20 rfl rfl ?_
  refine s_iload_n C 22 dX3_look_21 rfl rfl ?_
  refine s_invV C 25 0 0 [] (sR_rv hs9) dX3_look_22 rfl m_X3_29 (c_has (x := nI t) hs9) rfl rfl rfl ⟨by decide, by decide⟩ (Nat.le_of_ble_eq_true rfl) (by omega) (by omega) ?_
  rintro _ M9 ⟨rfl, rfl⟩
  dsimp only [Option.toList, List.cons_append, List.nil_append]
  refine s_if_neB C 29 28 dX3_look_25 (by decide) rfl (fun z25 => ?_) (fun z25 => ?_)
  · skip
    have hsy := hs9
    clear hL hA
    obtain ⟨la, qa, cap, g, ad, ifn, hS, hL, hQ, hT, hmo, hod, hql, hA⟩ := hsy
    refine s_aload_n C 30 dX3_look_29 rfl rfl ?_
    refine s_getf C 33 dX3_look_30 rfl f_X3_35 hS rfl ?_
    refine s_iload_n C 34 dX3_look_33 rfl rfl ?_
    refine s_invV C 37 0 0 [] (lR_rv hL) dX3_look_34 rfl m_X3_39 (c_get (i := t) hL (by omega) (hA t (by omega)).1) rfl rfl rfl ⟨by decide, by decide⟩ (Nat.le_of_ble_eq_true rfl) (by omega) (by omega) ?_
    rintro _ M10 ⟨rfl, rfl⟩
    dsimp only [Option.toList, List.cons_append, List.nil_append]
    obtain ⟨lb, ib, hOb, hLb, hIb⟩ := (hA t (by omega)).2.1
    have hVb := (hA t (by omega)).2.2.2
    have hnb : ln t ≤ 24 := hVb.2.1
    have hcb := cnB_le (f := fl t) (ln t)
    refine s_castT C 40 dX3_look_37 rfl hOb rfl k_X3_45 ?_
    refine s_astore_n C 41 dX3_look_40 rfl rfl rfl ?_
    dsimp only [List.set]
    refine s_aload_n C 42 dX3_look_41 rfl rfl ?_
    refine s_aload_n C 43 dX3_look_42 rfl rfl ?_
    refine s_getf C 46 dX3_look_43 rfl f_X3_47 hS rfl ?_
    refine s_invV C 49 0 0 [] (mRv_of hOb rfl) dX3_look_46 rfl m_X3_50 (c_run hOb hLb hIb (by omega)) rfl rfl rfl ⟨by decide, by decide⟩ (Nat.le_of_ble_eq_true rfl) (by omega) (by omega) ?_
    rintro _ M11 ⟨rfl, rfl⟩
    dsimp only [Option.toList, List.cons_append, List.nil_append]
    generalize hrun : (if mo = 3 then ib else lb) = run
    have hRn : M7 run = some (1, .inr (1, srN mo (ln t) (fl t), .inl (rG mo (fl t) (ifn t)))) := by rw [← hrun]; unfold srN rN rG; split <;> assumption
    have hrr : ∀ k, k < srN mo (ln t) (fl t) → rG mo (fl t) (ifn t) k = srG mo (ln t) (fl t) k := fun k hk => by unfold srG rG; split; (· rename_i hm; unfold srN rN at hk; rw [if_pos hm, ← hVb.im] at hk; exact inT_iniF (hA t htT).2.2.1 hk); rfl
    have hsr := hVb.sr (mo := mo)
    refine s_astore C 51 dX3_look_49 rfl rfl rfl ?_
    dsimp only [List.set]
    refine s_iconst C 52 (nI 0) dX3_look_51 rfl (by decide) ?_
    refine s_istore C 54 dX3_look_52 rfl rfl rfl ?_
    dsimp only [List.set]
    have hbk0 : bsR (bPR (pKb T mo ln fl t)) (dS 0) 0 0 := Or.inl ⟨rfl, rfl, fun s x h _ => absurd h (by unfold dS; omega)⟩
    have hbs0 : bsR (bPR (pSb T mo od ln fl us t)) (dS 0) 0 0 := Or.inl ⟨rfl, rfl, fun s x h _ => absurd h (by unfold dS; omega)⟩
    suffices lp54 : ∀ (fu54 : Nat) (p ks9 kl9 ss9 sl9 : Nat) (rw9 : Nat → Nat → Int32) (M9 : mM), srN mo (ln t) (fl t) - p < fu54 → p ≤ srN mo (ln t) (fl t) → yR M9 y ks9 kl9 ss9 sl9 rw9 → bsR (bPR (pKb T mo ln fl t)) (dS p) ks9 kl9 → bsR (bPR (pSb T mo od ln fl us t)) (dS p) ss9 sl9 → mZ [40, 42] M7 M9 → V X 0 0 54 [some (.ref y), some (.ref s), some (.int (nI t)), some (.ref (ad t)), some (.ref run), some (.int (nI p))] [] M9 from lp54 (srN mo (ln t) (fl t) + 1) 0 0 0 0 0 rows _ (by omega) (by omega) hy0 hbk0 hbs0 mZ.rf
    intro fu54
    induction fu54 with
    | zero => intro p ks9 kl9 ss9 sl9 rw9 M9 hp0 hp hy9 hbk hbs hFl; omega
    | succ fu54 ih54 =>
      intro p ks9 kl9 ss9 sl9 rw9 M9 hp0 hp hy9 hbk hbs hFl
      have hs8 := hs9.at hFl (by simp) (by simp) (by simp; omega) (by simp; omega) (by simp; omega) (by simp; omega)
      have hRn := hFl.at hRn (by simp)
      have hOb := hFl.at hOb (by simp)
      have hLb := hFl.at hLb (by simp)
      have hIb := hFl.at hIb (by simp)
      have hS := hFl.at hS (by simp; omega)
      refine s_iload C 56 dX3_look_54 rfl rfl ?_
      refine s_aload C 58 dX3_look_56 rfl rfl ?_
      refine s_alen C 59 dX3_look_58 rfl hRn (by decide) ?_
      refine s_icmp_geN C 91 62 dX3_look_59 (by decide) rfl (by omega) (by omega) (fun z59 => ?_) (fun z59 => ?_)
      · skip
        have hbkT := hbk.up (D' := dT) (fun s x _ g => trivial) (fun s x _ g hp => by unfold dS; have h1 := pcB_of (pKb_c hp); left; omega)
        have hbsT := hbs.up (D' := dT) (fun s x _ g => trivial) (fun s x _ g hp => by unfold dS; have h1 := pcB_of (pSb_c hp); left; omega)
        exact s_vret C dX3_look_91 Tr rfl ⟨rfl, _, _, _, _, _, hy9, hbkT, hbsT, hFx.tr hFl⟩
      · skip
        refine s_aload_n C 63 dX3_look_62 rfl rfl ?_
        refine s_aload_n C 64 dX3_look_63 rfl rfl ?_
        refine s_getf C 67 dX3_look_64 rfl f_X3_47 hS rfl ?_
        refine s_iload C 69 dX3_look_67 rfl rfl ?_
        refine s_invV C 72 0 0 [] (mRv_of hOb rfl) dX3_look_69 rfl m_X3_54 (c_startsPiece (p := p) hOb hLb hIb (by omega) (by omega) (by omega) (by omega)) rfl rfl rfl ⟨by decide, by decide⟩ (Nat.le_of_ble_eq_true rfl) (by omega) (by omega) ?_
        rintro _ M12 ⟨rfl, rfl⟩
        dsimp only [Option.toList, List.cons_append, List.nil_append]
        refine s_if_eqB C 85 75 dX3_look_72 (by decide) rfl (fun z72 => ?_) (fun z72 => ?_)
        · skip
          have hy8 := hy9
          have hF8 := hFl
          have hbk8 := hbk.up (D' := dS (p + 1)) (fun s x _ g => by unfold dS at g ⊢; omega) (fun s x _ g hp => by unfold dS at g ⊢; by_cases e : s = p; (· have h1 := pKb_c hp; unfold pcB at h1; rw [e, z72] at h1; cases h1); left; omega)
          have hbs8 := hbs.up (D' := dS (p + 1)) (fun s x _ g => by unfold dS at g ⊢; omega) (fun s x _ g hp => by unfold dS at g ⊢; by_cases e : s = p; (· have h1 := pSb_c hp; unfold pcB at h1; rw [e, z72] at h1; cases h1); left; omega)
          refine s_iinc C 88 (nI (p + 1)) dX3_look_85 rfl rfl (by rw [← nI_add]; rfl) rfl ?_
          dsimp only [List.set]
          refine s_goto C 54 dX3_look_88 (by decide) ?_
          exact ih54 (p + 1) _ _ _ _ _ _ (by omega) (by omega) hy8 hbk8 hbs8 hF8
        · skip
          refine s_aload_n C 76 dX3_look_75 rfl rfl ?_
          refine s_iload C 78 dX3_look_76 rfl rfl ?_
          refine s_aload C 80 dX3_look_78 rfl rfl ?_
          refine s_aload_n C 81 dX3_look_80 rfl rfl ?_
          refine s_iload_n C 82 dX3_look_81 rfl rfl ?_
          refine s_invV C 85 0 0 [] (yR_rv hy9) dX3_look_82 rfl m_X3_58 (c_lookFrom hs8 hy9 htT hRn rfl hrr (by omega) z72 hbk hbs) rfl rfl rfl ⟨by decide, by decide⟩ (Nat.le_of_ble_eq_true rfl) (by omega) (by omega) ?_
          rintro _ M13 ⟨rfl, ks8, kl8, ss8, sl8, rw8, hy8, hbk8, hbs8, hFz⟩
          dsimp only [Option.toList, List.cons_append, List.nil_append]
          have hF8 := hFl.tr hFz
          refine s_iinc C 88 (nI (p + 1)) dX3_look_85 rfl rfl (by rw [← nI_add]; rfl) rfl ?_
          dsimp only [List.set]
          refine s_goto C 54 dX3_look_88 (by decide) ?_
          exact ih54 (p + 1) _ _ _ _ _ _ (by omega) (by omega) hy8 hbk8 hbs8 hF8
  · skip
    exact absurd z25 (by rw [isIx_nI htT (by omega)]; decide)
