/-! pure words: keys and shortcuts -/
/-- only the cell at a may change -/
def mY (a : Nat) (M M1 : mM) : Prop := ∀ b, b ≠ a → M1 b = M b
theorem mY.rf {a : Nat} {M : mM} : mY a M M := fun _ _ => rfl
theorem mY.tr {a : Nat} {M M1 M2 : mM} (h1 : mY a M M1) (h2 : mY a M1 M2) : mY a M M2 := fun b hb => by rw [h2 b hb, h1 b hb]
theorem mY.put {a : Nat} {M0 M M1 : mM} {x : Nat × mE} {y : Option (Nat × mE)} (h : mY a M0 M) (u : mU M a x M1) (_ : M a = y) (_ : True) : mY a M0 M1 := fun b hb => by rw [u.2 b hb, h b hb]
theorem mY.at {a b t : Nat} {M M1 : mM} {e : mE} (h : mY a M M1) (hb : M b = some (t, e)) (hne : b ≠ a) : M1 b = some (t, e) := by rw [h b hne]; exact hb
theorem mY.Z {a t t1 : Nat} {T : List Nat} {M M1 : mM} {e e1 : mE} (h : mY a M M1) (ha : M a = some (t, e)) (ha1 : M1 a = some (t1, e1)) (ht : t ∈ T) : mZ T M M1 := by
  refine ⟨fun b tb eb hb hn => ?_, fun b hb => ?_⟩
  · by_cases q : b = a
    · rw [q, ha] at hb; cases hb; exact absurd ht hn
    · rw [h b q]; exact hb
  · by_cases q : b = a
    · rw [q, ha1] at hb; cases hb
    · rw [← h b q]; exact hb
def mtP (mo n m : Nat) (f ini q : Nat → Int32) (l x : Nat) : Bool := spB mo n m f x && mtB q (rG mo f ini) l x && decide (x + l ≤ rN mo n m)
theorem plc_fnd {mo n m : Nat} {f ini q : Nat → Int32} {l : Nat} : plc mo n m f ini q l = fnd (mtP mo n m f ini q l) 0 (rN mo n m + 1 - l) := by
  unfold plc
  refine fnd_cong _ _ (fun x _ hx => ?_)
  simp [mtP, show x + l ≤ rN mo n m by omega]
theorem plc_no {mo n m : Nat} {f ini q : Nat → Int32} {l : Nat} (h : ∀ x, x < rN mo n m → mtP mo n m f ini q l x = false) (hl : 0 < l) : plc mo n m f ini q l = none := by
  rw [plc_fnd]
  exact (fnd_none _ _).mpr (fun x _ hx => h x (by omega))
theorem plc_yes {mo n m : Nat} {f ini q : Nat → Int32} {l x : Nat} (h : mtP mo n m f ini q l x = true) (h2 : ∀ y, y < x → mtP mo n m f ini q l y = false) : plc mo n m f ini q l = some x := by
  rw [plc_fnd]
  have hx : x + l ≤ rN mo n m := by
    unfold mtP at h
    simp only [Bool.and_eq_true, decide_eq_true_eq] at h
    exact h.2
  exact (fnd_some _ _ _).mpr ⟨Nat.zero_le _, by omega, h, fun y _ hy => h2 y hy⟩
theorem plc_none {mo n m : Nat} {f ini q : Nat → Int32} {l : Nat} (h : plc mo n m f ini q l = none) : ∀ x, mtP mo n m f ini q l x = false := by
  intro x
  rw [plc_fnd] at h
  by_cases hx : x + l ≤ rN mo n m
  · exact (fnd_none _ _).mp h x (Nat.zero_le _) (by omega)
  · simp [mtP, hx]
theorem plc_some {mo n m : Nat} {f ini q : Nat → Int32} {l x : Nat} (h : plc mo n m f ini q l = some x) : mtP mo n m f ini q l x = true ∧ ∀ y, y < x → mtP mo n m f ini q l y = false := by
  rw [plc_fnd] at h
  obtain ⟨-, h2, h3, h4⟩ := (fnd_some _ _ _).mp h
  exact ⟨h3, fun y hy => h4 y (Nat.zero_le _) hy⟩
theorem mtP_0 {mo n m : Nat} {f ini q : Nat → Int32} {l x : Nat} (h : spB mo n m f x = false) : mtP mo n m f ini q l x = false := by simp [mtP, h]
theorem mtP_1 {mo n m : Nat} {f ini q : Nat → Int32} {l x : Nat} (hl : 0 < l) (h : ¬ rG mo f ini x = q 0) : mtP mo n m f ini q l x = false := by
  cases e : mtP mo n m f ini q l x with
  | false => rfl
  | true =>
    simp only [mtP, mtB, Bool.and_eq_true, decide_eq_true_eq] at e
    exact absurd (e.1.2 0 hl).symm h
/-- what the run of equal characters tells -/
theorem mtP_sl {mo n m N : Nat} {f ini r : Nat → Int32} {s l x most : Nat} (hsp : spB mo n m f x = true) (hl : l ≤ most) (hN : s + most ≤ N) : mtP mo n m f ini (fun k => r (s + k)) l x = true ↔ l ≤ sl r (rG mo f ini) N (rN mo n m) s x most ∧ x + l ≤ rN mo n m := by
  rw [sl_ge]
  simp only [mtP, mtB, hsp, Bool.true_and, Bool.and_eq_true, decide_eq_true_eq]
  constructor
  · rintro ⟨h1, h2⟩
    exact ⟨⟨hl, fun y hy => ⟨by omega, by omega, h1 y hy⟩⟩, h2⟩
  · rintro ⟨⟨-, h1⟩, h2⟩
    exact ⟨fun y hy => (h1 y hy).2.2, h2⟩
/-- what pieces of a title are cut from -/
def srN (mo n : Nat) (f : Nat → Int32) : Nat := rN mo n (1 + cnB f n)
def srG (mo n : Nat) (f : Nat → Int32) : Nat → Int32 := rG mo f (iniF f n)
/-- whether there is a piece -/
def pcB (mo n : Nat) (f : Nat → Int32) (s l : Nat) : Bool := spB mo n (1 + cnB f n) f s && decide (0 < l ∧ s + l ≤ srN mo n f ∧ srG mo n f (s + l - 1) ≠ nI 32)
/-- where a piece of t is in u -/
def pl2 (mo : Nat) (ln : Nat → Nat) (fl : Nat → Nat → Int32) (t s l u : Nat) : Option Nat := plc mo (ln u) (1 + cnB (fl u) (ln u)) (fl u) (iniF (fl u) (ln u)) (fun k => srG mo (ln t) (fl t) (s + k)) l
def aloB (T mo : Nat) (ln : Nat → Nat) (fl : Nat → Nat → Int32) (t s l : Nat) : Bool := decide (∀ u, u < T → u ≠ t → pl2 mo ln fl t s l u = none)
def firB (T mo od : Nat) (ln : Nat → Nat) (fl : Nat → Nat → Int32) (us : Nat → Int32) (t s l : Nat) : Bool := decide (∀ u, u < T → u ≠ t → ∀ p, pl2 mo ln fl t s l u = some p → cbB od u p t ((pl2 mo ln fl t s l t).getD 0) ln fl us = false)
/-- the shortest, and of these the first, of what there is among D; 0 of none -/
def bsR (P D : Nat → Nat → Prop) (ks kl : Nat) : Prop := (kl = 0 ∧ ks = 0 ∧ ∀ s l, D s l → 0 < l → ¬ P s l) ∨ (0 < kl ∧ D ks kl ∧ P ks kl ∧ ∀ s l, D s l → 0 < l → P s l → kl < l ∨ kl = l ∧ ks ≤ s)
theorem bsR.up {P D D' : Nat → Nat → Prop} {ks kl : Nat} (h : bsR P D ks kl) (hD : ∀ s l, 0 < l → D s l → D' s l) (h2 : ∀ s l, 0 < l → D' s l → P s l → D s l ∨ (0 < kl ∧ kl ≤ l ∧ ks ≤ s)) : bsR P D' ks kl := by
  rcases h with ⟨h0, h1, h3⟩ | ⟨h0, h1, h3, h4⟩
  · refine Or.inl ⟨h0, h1, fun s l hd hl hp => ?_⟩
    rcases h2 s l hl hd hp with g | g
    · exact h3 s l g hl hp
    · omega
  · refine Or.inr ⟨h0, hD _ _ h0 h1, h3, fun s l hd hl hp => ?_⟩
    rcases h2 s l hl hd hp with g | g
    · exact h4 s l g hl hp
    · omega
theorem bsR.hit {P D D' : Nat → Nat → Prop} {ks kl s0 l0 : Nat} (h : bsR P D ks kl) (h0 : 0 < l0) (hlt : kl = 0 ∨ l0 < kl) (hp : P s0 l0) (hd : D' s0 l0) (h2 : ∀ s l, 0 < l → D' s l → D s l ∨ (s = s0 ∧ l = l0)) : bsR P D' s0 l0 := by
  refine Or.inr ⟨h0, hd, hp, fun s l hdd hl hpp => ?_⟩
  rcases h2 s l hl hdd with g | g
  · rcases h with ⟨-, -, h3⟩ | ⟨g0, g1, g3, g4⟩
    · exact absurd hpp (h3 s l g hl)
    · have := g4 s l g hl hpp
      omega
  · omega
/-- Study's cells -/
def yR (M : mM) (y ks kl ss sl : Nat) (rows : Nat → Nat → Int32) : Prop := ∃ (pA : Nat) (gA : Nat → Option Nat) (ra : Nat → Nat), M y = some (40, .inl (4, [.ref pA, .int (nI ks), .int (nI kl), .int (nI ss), .int (nI sl)])) ∧ M pA = some (41, .inr (4, 16, .inr gA)) ∧ (∀ i, i < 16 → gA i = some (ra i)) ∧ (∀ i j, i < 16 → j < 16 → ra i = ra j → i = j) ∧ (∀ i, i < 16 → M (ra i) = some (42, .inr (0, 25, .inl (rows i)))) ∧ ks < 100 ∧ kl < 100 ∧ ss < 100 ∧ sl < 100
theorem yR_rv {G : mG} {M : mM} {y ks kl ss sl : Nat} {rows : Nat → Nat → Int32} (h : yR M y ks kl ss sl rows) : mRv G M RX3 y := by
  obtain ⟨pA, gA, ra, h1, -⟩ := h
  exact mRv_of h1 rfl
theorem yR.at {T : List Nat} {M M1 : mM} {y ks kl ss sl : Nat} {rows : Nat → Nat → Int32} (hF : mZ T M M1) (h0 : 40 ∉ T) (h1 : 41 ∉ T) (h2 : 42 ∉ T) (h : yR M y ks kl ss sl rows) : yR M1 y ks kl ss sl rows := by
  obtain ⟨pA, gA, ra, g1, g2, g3, g4, g5, g6⟩ := h
  exact ⟨pA, gA, ra, hF.at g1 h0, hF.at g2 h1, g3, g4, fun i hi => hF.at (g5 i hi) h2, g6⟩
set_option maxRecDepth 100000 in
set_option maxHeartbeats 4000000 in
theorem c_hasKey {G : mG} {M : mM} {y ks kl ss sl : Nat} {rows : Nat → Nat → Int32} (hy : yR M y ks kl ss sl rows) : CC G iX3_hasKey 0 0 [.ref y] M (fun r M1 => r = some (.int (mB (decide (0 < kl)))) ∧ M = M1) := by
  refine CC.of rfl (Nat.le_of_ble_eq_true rfl) rfl (fun X C Tr => ?_)
  show V X 0 0 0 [some (.ref y)] [] M
  obtain ⟨pA, gA, ra, hY, hA0, hgA, hinj, hrw, hks, hkl, hss, hsl⟩ := hy
  refine s_aload_n C 1 dX3_hasKey_0 rfl rfl ?_
  refine s_getf C 4 dX3_hasKey_1 rfl f_X3_20 hY rfl ?_
  refine s_if_leN C 11 7 dX3_hasKey_4 (by decide) rfl (by omega) (fun z4 => ?_) (fun z4 => ?_)
  · skip
    refine s_iconst C 12 (nI 0) dX3_hasKey_11 rfl (by decide) ?_
    exact s_zret C dX3_hasKey_12 Tr rfl (by decide) ⟨rF (by simp [*] <;> omega), rfl⟩
  · skip
    refine s_iconst C 8 (nI 1) dX3_hasKey_7 rfl (by decide) ?_
    refine s_goto C 12 dX3_hasKey_8 (by decide) ?_
    exact s_zret C dX3_hasKey_12 Tr rfl (by decide) ⟨rT (by simp [*] <;> omega), rfl⟩

set_option maxRecDepth 100000 in
set_option maxHeartbeats 4000000 in
theorem c_hasShortcut {G : mG} {M : mM} {y ks kl ss sl : Nat} {rows : Nat → Nat → Int32} (hy : yR M y ks kl ss sl rows) : CC G iX3_hasShortcut 0 0 [.ref y] M (fun r M1 => r = some (.int (mB (decide (0 < sl)))) ∧ M = M1) := by
  refine CC.of rfl (Nat.le_of_ble_eq_true rfl) rfl (fun X C Tr => ?_)
  show V X 0 0 0 [some (.ref y)] [] M
  obtain ⟨pA, gA, ra, hY, hA0, hgA, hinj, hrw, hks, hkl, hss, hsl⟩ := hy
  refine s_aload_n C 1 dX3_hasShortcut_0 rfl rfl ?_
  refine s_getf C 4 dX3_hasShortcut_1 rfl f_X3_26 hY rfl ?_
  refine s_if_leN C 11 7 dX3_hasShortcut_4 (by decide) rfl (by omega) (fun z4 => ?_) (fun z4 => ?_)
  · skip
    refine s_iconst C 12 (nI 0) dX3_hasShortcut_11 rfl (by decide) ?_
    exact s_zret C dX3_hasShortcut_12 Tr rfl (by decide) ⟨rF (by simp [*] <;> omega), rfl⟩
  · skip
    refine s_iconst C 8 (nI 1) dX3_hasShortcut_7 rfl (by decide) ?_
    refine s_goto C 12 dX3_hasShortcut_8 (by decide) ?_
    exact s_zret C dX3_hasShortcut_12 Tr rfl (by decide) ⟨rT (by simp [*] <;> omega), rfl⟩

set_option maxRecDepth 100000 in
set_option maxHeartbeats 4000000 in
theorem c_longestWanted {G : mG} {M : mM} {y ks kl ss sl : Nat} {rows : Nat → Nat → Int32} (hy : yR M y ks kl ss sl rows) : CC G iX3_longestWanted 0 0 [.ref y] M (fun r M1 => r = some (.int (nI (if kl = 0 ∨ sl = 0 then 24 else max kl sl - 1))) ∧ M = M1) := by
  refine CC.of rfl (Nat.le_of_ble_eq_true rfl) rfl (fun X C Tr => ?_)
  show V X 0 0 0 [some (.ref y)] [] M
  obtain ⟨pA, gA, ra, hY, hA0, hgA, hinj, hrw, hks, hkl, hss, hsl⟩ := hy
  refine s_aload_n C 1 dX3_longestWanted_0 rfl rfl ?_
  refine s_invV C 4 0 0 [] (mRv_of hY rfl) dX3_longestWanted_1 rfl m_X3_79 (c_hasKey ⟨pA, gA, ra, hY, hA0, hgA, hinj, hrw, hks, hkl, hss, hsl⟩) rfl rfl rfl ⟨by decide, by decide⟩ (Nat.le_of_ble_eq_true rfl) (by omega) (by omega) ?_
  rintro _ M1 ⟨rfl, rfl⟩
  dsimp only [Option.toList, List.cons_append, List.nil_append]
  refine s_if_eqB C 14 7 dX3_longestWanted_4 (by decide) rfl (fun z4 => ?_) (fun z4 => ?_)
  · skip
    have z4 := of_decide_eq_false z4
    have hz : (if kl = 0 ∨ sl = 0 then 24 else max kl sl - 1) = 24 := if_pos (by omega)
    refine s_bipush C 16 (nI 24) dX3_longestWanted_14 rfl (by decide) ?_
    exact s_iret C dX3_longestWanted_16 Tr rfl ⟨by rw [hz], rfl⟩
  · skip
    have z4 := of_decide_eq_true z4
    refine s_aload_n C 8 dX3_longestWanted_7 rfl rfl ?_
    refine s_invV C 11 0 0 [] (mRv_of hY rfl) dX3_longestWanted_8 rfl m_X3_87 (c_hasShortcut ⟨pA, gA, ra, hY, hA0, hgA, hinj, hrw, hks, hkl, hss, hsl⟩) rfl rfl rfl ⟨by decide, by decide⟩ (Nat.le_of_ble_eq_true rfl) (by omega) (by omega) ?_
    rintro _ M2 ⟨rfl, rfl⟩
    dsimp only [Option.toList, List.cons_append, List.nil_append]
    refine s_if_neB C 17 14 dX3_longestWanted_11 (by decide) rfl (fun z11 => ?_) (fun z11 => ?_)
    · skip
      have z11 := of_decide_eq_true z11
      have hz : (if kl = 0 ∨ sl = 0 then 24 else max kl sl - 1) = max kl sl - 1 := if_neg (by omega)
      refine s_aload_n C 18 dX3_longestWanted_17 rfl rfl ?_
      refine s_getf C 21 dX3_longestWanted_18 rfl f_X3_20 hY rfl ?_
      refine s_aload_n C 22 dX3_longestWanted_21 rfl rfl ?_
      refine s_getf C 25 dX3_longestWanted_22 rfl f_X3_26 hY rfl ?_
      refine s_maxN C 28 dX3_longestWanted_25 rfl mm_X3_93 rfl (by decide) (Nat.le_of_ble_eq_true rfl) (by omega) (by omega) ?_
      refine s_iconst C 29 (nI 1) dX3_longestWanted_28 rfl (by decide) ?_
      refine s_isubN C 30 dX3_longestWanted_29 rfl (by omega) ?_
      exact s_iret C dX3_longestWanted_30 Tr rfl ⟨by rw [hz], rfl⟩
    · skip
      have z11 := of_decide_eq_false z11
      have hz : (if kl = 0 ∨ sl = 0 then 24 else max kl sl - 1) = 24 := if_pos (by omega)
      refine s_bipush C 16 (nI 24) dX3_longestWanted_14 rfl (by decide) ?_
      exact s_iret C dX3_longestWanted_16 Tr rfl ⟨by rw [hz], rfl⟩

set_option maxRecDepth 100000 in
set_option maxHeartbeats 4000000 in
theorem c_splace {G : mG} {M : mM} {y ks kl ss sl : Nat} {rows : Nat → Nat → Int32} (hy : yR M y ks kl ss sl rows) {i l : Nat} (hi : i < 16) (hl : l ≤ 24) : CC G iX3_placeOf 0 0 [.ref y, .int (nI i), .int (nI l)] M (fun r M1 => r = some (.int (rows i l)) ∧ M = M1) := by
  refine CC.of rfl (Nat.le_of_ble_eq_true rfl) rfl (fun X C Tr => ?_)
  show V X 0 0 0 [some (.ref y), some (.int (nI i)), some (.int (nI l))] [] M
  obtain ⟨pA, gA, ra, hY, hA0, hgA, hinj, hrw, hks, hkl, hss, hsl⟩ := hy
  refine s_iload_n C 1 dX3_placeOf_0 rfl rfl ?_
  refine s_if_ltN C 4 (t := 23) dX3_placeOf_1 (by decide) rfl (by omega) ?_
  refine s_iload_n C 5 dX3_placeOf_4 rfl rfl ?_
  refine s_aload_n C 6 dX3_placeOf_5 rfl rfl ?_
  refine s_getf C 9 dX3_placeOf_6 rfl f_X3_11 hY rfl ?_
  refine s_alen C 10 dX3_placeOf_9 rfl hA0 (by decide) ?_
  refine s_icmp_geN C 23 13 dX3_placeOf_10 (by decide) rfl (by omega) (by omega) (fun z10 => ?_) (fun z10 => ?_)
  · skip
    omega
  · skip
    refine s_iload_n C 14 dX3_placeOf_13 rfl rfl ?_
    refine s_if_ltN C 17 (t := 23) dX3_placeOf_14 (by decide) rfl (by omega) ?_
    refine s_iload_n C 18 dX3_placeOf_17 rfl rfl ?_
    refine s_bipush C 20 (nI 24) dX3_placeOf_18 rfl (by decide) ?_
    refine s_icmp_leN C 26 23 dX3_placeOf_20 (by decide) rfl (by omega) (by omega) (fun z20 => ?_) (fun z20 => ?_)
    · skip
      refine s_aload_n C 27 dX3_placeOf_26 rfl rfl ?_
      refine s_getf C 30 dX3_placeOf_27 rfl f_X3_11 hY rfl ?_
      refine s_iload_n C 31 dX3_placeOf_30 rfl rfl ?_
      refine s_aald C 32 dX3_placeOf_31 rfl hA0 (by decide) (by omega) (by omega) ?_
      rw [hgA i (by omega)]
      dsimp only [va_rf]
      have hRow := hrw i (by omega)
      refine s_iload_n C 33 dX3_placeOf_32 rfl rfl ?_
      refine s_iald C 34 dX3_placeOf_33 rfl hRow (by omega) (by omega) ?_
      exact s_iret C dX3_placeOf_34 Tr rfl ⟨rfl, rfl⟩
    · skip
      omega

set_option maxRecDepth 100000 in
set_option maxHeartbeats 4000000 in
theorem c_isKnownBy {G : mG} {M : mM} {k s T mo od ql : Nat} {q : Nat → Int32} {ln : Nat → Nat} {fl : Nat → Nat → Int32} {us : Nat → Int32} (h : sR G M k s T mo od ql q ln fl us) {y ks kl ss sl : Nat} {rows : Nat → Nat → Int32} (hy : yR M y ks kl ss sl rows) {l t : Nat} {pls : Nat → Option Nat} (hpl : ∀ u, u < T → rows u l = oI (pls u)) (hpb : ∀ u, u < T → ∀ j, pls u = some j → j < 100000) (hl : l ≤ 24) (htT : t < T) : CC G iX3_isKnownBy 0 0 [.ref y, .int (nI l), .ref s, .int (nI t)] M (fun r M1 => r = some (.int (mB (decide (∀ u, u < T → u ≠ t → pls u = none)))) ∧ M = M1) := by
  refine CC.of rfl (Nat.le_of_ble_eq_true rfl) rfl (fun X C Tr => ?_)
  show V X 0 0 0 [some (.ref y), some (.int (nI l)), some (.ref s), some (.int (nI t)), none] [] M
  obtain ⟨la, qa, cap, g, ad, ifn, hS, hL, hQ, hT, hmo, hod, hql, hA⟩ := h
  refine s_iconst C 1 (nI 0) dX3_isKnownBy_0 rfl (by decide) ?_
  refine s_istore C 3 dX3_isKnownBy_1 rfl rfl rfl ?_
  dsimp only [List.set]
  suffices lp3 : ∀ (fu3 : Nat) (u : Nat), T - u < fu3 → u ≤ T → (∀ v, v < u → v ≠ t → pls v = none) → V X 0 0 3 [some (.ref y), some (.int (nI l)), some (.ref s), some (.int (nI t)), some (.int (nI u))] [] M from lp3 (T + 1) 0 (by omega) (by omega) (fun v hv => by omega)
  intro fu3
  induction fu3 with
  | zero => intro u hu0 hu hd; omega
  | succ fu3 ih3 =>
    intro u hu0 hu hd
    refine s_iload C 5 dX3_isKnownBy_3 rfl rfl ?_
    refine s_aload_n C 6 dX3_isKnownBy_5 rfl rfl ?_
    refine s_getf C 9 dX3_isKnownBy_6 rfl f_X3_35 hS rfl ?_
    refine s_invV C 12 0 0 [.int (nI u)] (lR_rv hL) dX3_isKnownBy_9 rfl m_X3_72 (c_size hL) rfl rfl rfl ⟨by decide, by decide⟩ (Nat.le_of_ble_eq_true rfl) (by omega) (by omega) ?_
    rintro _ M1 ⟨rfl, rfl⟩
    dsimp only [Option.toList, List.cons_append, List.nil_append]
    refine s_icmp_geN C 39 15 dX3_isKnownBy_12 (by decide) rfl (by omega) (by omega) (fun z12 => ?_) (fun z12 => ?_)
    · skip
      have hz : decide (∀ u, u < T → u ≠ t → pls u = none) = true := decide_eq_true (fun v hv hn => hd v (by omega) hn)
      refine s_iconst C 40 (nI 1) dX3_isKnownBy_39 rfl (by decide) ?_
      exact s_zret C dX3_isKnownBy_40 Tr rfl (by decide) ⟨rT hz, rfl⟩
    · skip
      refine s_iload C 17 dX3_isKnownBy_15 rfl rfl ?_
      refine s_iload_n C 18 dX3_isKnownBy_17 rfl rfl ?_
      refine s_icmp_eqN C 33 21 dX3_isKnownBy_18 (by decide) rfl (by omega) (by omega) (fun z18 => ?_) (fun z18 => ?_)
      · skip
        refine s_iinc C 36 (nI (u + 1)) dX3_isKnownBy_33 rfl rfl (by rw [← nI_add]; rfl) rfl ?_
        dsimp only [List.set]
        refine s_goto C 3 dX3_isKnownBy_36 (by decide) ?_
        exact ih3 (u + 1) (by omega) (by omega) (fun v hv hn => by by_cases e : v = u; (· rw [e] at hn ⊢; first | exact absurd z18 hn | exact (oI_lt (hpb u (by omega))).mp (by rw [← hpl u (by omega)]; exact z28)); exact hd v (by omega) hn)
      · skip
        refine s_aload_n C 22 dX3_isKnownBy_21 rfl rfl ?_
        refine s_iload C 24 dX3_isKnownBy_22 rfl rfl ?_
        refine s_iload_n C 25 dX3_isKnownBy_24 rfl rfl ?_
        refine s_invV C 28 0 0 [] (yR_rv hy) dX3_isKnownBy_25 rfl m_X3_100 (c_splace (i := u) (l := l) hy (by omega) (by omega)) rfl rfl rfl ⟨by decide, by decide⟩ (Nat.le_of_ble_eq_true rfl) (by omega) (by omega) ?_
        rintro _ M2 ⟨rfl, rfl⟩
        dsimp only [Option.toList, List.cons_append, List.nil_append]
        refine s_if_lt C 33 31 dX3_isKnownBy_28 (by decide) rfl (fun z28 => ?_) (fun z28 => ?_)
        · skip
          refine s_iinc C 36 (nI (u + 1)) dX3_isKnownBy_33 rfl rfl (by rw [← nI_add]; rfl) rfl ?_
          dsimp only [List.set]
          refine s_goto C 3 dX3_isKnownBy_36 (by decide) ?_
          exact ih3 (u + 1) (by omega) (by omega) (fun v hv hn => by by_cases e : v = u; (· rw [e] at hn ⊢; first | exact absurd z18 hn | exact (oI_lt (hpb u (by omega))).mp (by rw [← hpl u (by omega)]; exact z28)); exact hd v (by omega) hn)
        · skip
          have hz : decide (∀ u, u < T → u ≠ t → pls u = none) = false := decide_eq_false (fun q => z28 (by rw [hpl u (by omega), q u (by omega) z18]; decide))
          refine s_iconst C 32 (nI 0) dX3_isKnownBy_31 rfl (by decide) ?_
          exact s_zret C dX3_isKnownBy_32 Tr rfl (by decide) ⟨rF hz, rfl⟩

set_option maxRecDepth 100000 in
set_option maxHeartbeats 4000000 in
theorem c_isFirstFor {G : mG} {M : mM} {k s T mo od ql : Nat} {q : Nat → Int32} {ln : Nat → Nat} {fl : Nat → Nat → Int32} {us : Nat → Int32} (h : sR G M k s T mo od ql q ln fl us) {y ks kl ss sl : Nat} {rows : Nat → Nat → Int32} (hy : yR M y ks kl ss sl rows) {l t own : Nat} {pls : Nat → Option Nat} (hpl : ∀ u, u < T → rows u l = oI (pls u)) (hpb : ∀ u, u < T → ∀ j, pls u = some j → j < 1000) (hl : l ≤ 24) (htT : t < T) (hown : pls t = some own) : CC G iX3_isFirstFor 0 0 [.ref y, .int (nI l), .ref s, .int (nI t)] M (fun r M1 => r = some (.int (mB (decide (∀ u, u < T → u ≠ t → ∀ p, pls u = some p → cbB od u p t own ln fl us = false)))) ∧ M = M1) := by
  refine CC.of rfl (Nat.le_of_ble_eq_true rfl) rfl (fun X C Tr => ?_)
  show V X 0 0 0 [some (.ref y), some (.int (nI l)), some (.ref s), some (.int (nI t)), none, none, none] [] M
  obtain ⟨la, qa, cap, g, ad, ifn, hS, hL, hQ, hT, hmo, hod, hql, hA⟩ := h
  have hpb0 := hpb t htT own hown
  refine s_aload_n C 1 dX3_isFirstFor_0 rfl rfl ?_
  refine s_iload_n C 2 dX3_isFirstFor_1 rfl rfl ?_
  refine s_iload_n C 3 dX3_isFirstFor_2 rfl rfl ?_
  refine s_invV C 6 0 0 [] (yR_rv hy) dX3_isFirstFor_3 rfl m_X3_100 (c_splace (i := t) (l := l) hy (by omega) (by omega)) rfl rfl rfl ⟨by decide, by decide⟩ (Nat.le_of_ble_eq_true rfl) (by omega) (by omega) ?_
  rintro _ M1 ⟨rfl, rfl⟩
  dsimp only [Option.toList, List.cons_append, List.nil_append]
  rw [show rows t l = nI own by rw [hpl t htT, hown]; rfl]
  refine s_istore C 8 dX3_isFirstFor_6 rfl rfl rfl ?_
  dsimp only [List.set]
  refine s_iconst C 9 (nI 0) dX3_isFirstFor_8 rfl (by decide) ?_
  refine s_istore C 11 dX3_isFirstFor_9 rfl rfl rfl ?_
  dsimp only [List.set]
  suffices lp11 : ∀ (fu11 : Nat) (u : Nat), T - u < fu11 → u ≤ T → (∀ v, v < u → v ≠ t → ∀ p, pls v = some p → cbB od v p t own ln fl us = false) → V X 0 0 11 [some (.ref y), some (.int (nI l)), some (.ref s), some (.int (nI t)), some (.int (nI own)), some (.int (nI u)), none] [] M from lp11 (T + 1) 0 (by omega) (by omega) (fun v hv => by omega)
  intro fu11
  induction fu11 with
  | zero => intro u hu0 hu hd; omega
  | succ fu11 ih11 =>
    intro u hu0 hu hd
    refine s_iload C 13 dX3_isFirstFor_11 rfl rfl ?_
    refine s_aload_n C 14 dX3_isFirstFor_13 rfl rfl ?_
    refine s_getf C 17 dX3_isFirstFor_14 rfl f_X3_35 hS rfl ?_
    refine s_invV C 20 0 0 [.int (nI u)] (lR_rv hL) dX3_isFirstFor_17 rfl m_X3_72 (c_size hL) rfl rfl rfl ⟨by decide, by decide⟩ (Nat.le_of_ble_eq_true rfl) (by omega) (by omega) ?_
    rintro _ M2 ⟨rfl, rfl⟩
    dsimp only [Option.toList, List.cons_append, List.nil_append]
    refine s_icmp_geN C 65 23 dX3_isFirstFor_20 (by decide) rfl (by omega) (by omega) (fun z20 => ?_) (fun z20 => ?_)
    · skip
      have hz : decide (∀ u, u < T → u ≠ t → ∀ p, pls u = some p → cbB od u p t own ln fl us = false) = true := decide_eq_true (fun v hv hn => hd v (by omega) hn)
      refine s_iconst C 66 (nI 1) dX3_isFirstFor_65 rfl (by decide) ?_
      exact s_zret C dX3_isFirstFor_66 Tr rfl (by decide) ⟨rT hz, rfl⟩
    · skip
      refine s_aload_n C 24 dX3_isFirstFor_23 rfl rfl ?_
      refine s_iload C 26 dX3_isFirstFor_24 rfl rfl ?_
      refine s_iload_n C 27 dX3_isFirstFor_26 rfl rfl ?_
      refine s_invV C 30 0 0 [] (yR_rv hy) dX3_isFirstFor_27 rfl m_X3_100 (c_splace (i := u) (l := l) hy (by omega) (by omega)) rfl rfl rfl ⟨by decide, by decide⟩ (Nat.le_of_ble_eq_true rfl) (by omega) (by omega) ?_
      rintro _ M3 ⟨rfl, rfl⟩
      dsimp only [Option.toList, List.cons_append, List.nil_append]
      refine s_istore C 32 dX3_isFirstFor_30 rfl rfl rfl ?_
      dsimp only [List.set]
      refine s_iload C 34 dX3_isFirstFor_32 rfl rfl ?_
      refine s_iload_n C 35 dX3_isFirstFor_34 rfl rfl ?_
      refine s_icmp_eqN C 59 38 dX3_isFirstFor_35 (by decide) rfl (by omega) (by omega) (fun z35 => ?_) (fun z35 => ?_)
      · skip
        refine s_iinc C 62 (nI (u + 1)) dX3_isFirstFor_59 rfl rfl (by rw [← nI_add]; rfl) rfl ?_
        dsimp only [List.set]
        refine s_goto C 11 dX3_isFirstFor_62 (by decide) ?_
        refine V.drop 6 ?_
        dsimp only [List.set]
        exact ih11 (u + 1) (by omega) (by omega) (fun v hv hn p hp => by by_cases e : v = u; (· rw [e] at hn hp ⊢; first | exact absurd z35 hn | exact absurd hp (by rw [hno]; intro q; cases q) | (rw [hpp] at hp; cases hp; exact z54)); exact hd v (by omega) hn p hp)
      · skip
        refine s_iload C 40 dX3_isFirstFor_38 rfl rfl ?_
        refine s_if_lt C 59 43 dX3_isFirstFor_40 (by decide) rfl (fun z40 => ?_) (fun z40 => ?_)
        · skip
          have hno : pls u = none := (oI_lt (fun j hj => Nat.lt_of_lt_of_le (hpb u (by omega) j hj) (by decide))).mp (by rw [← hpl u (by omega)]; exact z40)
          refine s_iinc C 62 (nI (u + 1)) dX3_isFirstFor_59 rfl rfl (by rw [← nI_add]; rfl) rfl ?_
          dsimp only [List.set]
          refine s_goto C 11 dX3_isFirstFor_62 (by decide) ?_
          refine V.drop 6 ?_
          dsimp only [List.set]
          exact ih11 (u + 1) (by omega) (by omega) (fun v hv hn p hp => by by_cases e : v = u; (· rw [e] at hn hp ⊢; first | exact absurd z35 hn | exact absurd hp (by rw [hno]; intro q; cases q) | (rw [hpp] at hp; cases hp; exact z54)); exact hd v (by omega) hn p hp)
        · skip
          have hpx : ∃ p, pls u = some p := by cases e : pls u with | none => exact absurd (by rw [hpl u (by omega), e]; decide) z40 | some p => exact ⟨p, rfl⟩
          obtain ⟨p, hpp⟩ := hpx
          have hpb1 := hpb u (by omega) p hpp
          rw [show rows u l = nI p by rw [hpl u (by omega), hpp]; rfl]
          refine s_aload_n C 44 dX3_isFirstFor_43 rfl rfl ?_
          refine s_iload C 46 dX3_isFirstFor_44 rfl rfl ?_
          refine s_iload C 48 dX3_isFirstFor_46 rfl rfl ?_
          refine s_iload_n C 49 dX3_isFirstFor_48 rfl rfl ?_
          refine s_iload C 51 dX3_isFirstFor_49 rfl rfl ?_
          refine s_invV C 54 0 0 [] (mRv_of hS rfl) dX3_isFirstFor_51 rfl m_X3_103 (c_comesBefore ⟨la, qa, cap, g, ad, ifn, hS, hL, hQ, hT, hmo, hod, hql, hA⟩ (by omega) htT (by omega) (by omega)) rfl rfl rfl ⟨by decide, by decide⟩ (Nat.le_of_ble_eq_true rfl) (by omega) (by omega) ?_
          rintro _ M4 ⟨rfl, rfl⟩
          dsimp only [Option.toList, List.cons_append, List.nil_append]
          refine s_if_eqB C 59 57 dX3_isFirstFor_54 (by decide) rfl (fun z54 => ?_) (fun z54 => ?_)
          · skip
            refine s_iinc C 62 (nI (u + 1)) dX3_isFirstFor_59 rfl rfl (by rw [← nI_add]; rfl) rfl ?_
            dsimp only [List.set]
            refine s_goto C 11 dX3_isFirstFor_62 (by decide) ?_
            refine V.drop 6 ?_
            dsimp only [List.set]
            exact ih11 (u + 1) (by omega) (by omega) (fun v hv hn p hp => by by_cases e : v = u; (· rw [e] at hn hp ⊢; first | exact absurd z35 hn | exact absurd hp (by rw [hno]; intro q; cases q) | (rw [hpp] at hp; cases hp; exact z54)); exact hd v (by omega) hn p hp)
          · skip
            have hz : decide (∀ u, u < T → u ≠ t → ∀ p, pls u = some p → cbB od u p t own ln fl us = false) = false := decide_eq_false (fun q => by have := q u (by omega) z35 p hpp; rw [z54] at this; cases this)
            refine s_iconst C 58 (nI 0) dX3_isFirstFor_57 rfl (by decide) ?_
            exact s_zret C dX3_isFirstFor_58 Tr rfl (by decide) ⟨rF hz, rfl⟩

set_option maxRecDepth 100000 in
set_option maxHeartbeats 4000000 in
theorem c_findPlaces {G : mG} {M : mM} {a la ia n m row run tr N start most mo : Nat} {f ini rr h0 : Nat → Int32} {u : Int32} (hO : M a = some (1, .inl (6, [.ref la, .ref ia, .int u]))) (hL : M la = some (1, .inr (1, n, .inl f))) (hI : M ia = some (1, .inr (1, m, .inl ini))) (hn : n ≤ 24) (hm : m ≤ 100) (hRw : M row = some (tr, .inr (0, 25, .inl h0))) (htr0 : tr ≠ 0) (htr : tr ≠ 1) (hRn : M run = some (1, .inr (1, N, .inl rr))) (hmo : mo < 4) (hst : start < N) (hN1 : N ≤ 100) (hm24 : most ≤ 24) (hNm : start + most ≤ N) : CC G iX3_findPlaces 0 0 [.ref row, .int (nI most), .ref run, .int (nI start), .ref a, .int (nI mo)] M (fun r M1 => r = none ∧ ∃ h1, (∀ l, 0 < l → l ≤ most → h1 l = oI (plc mo n m f ini (fun k => rr (start + k)) l)) ∧ M1 row = some (tr, .inr (0, 25, .inl h1)) ∧ mY row M M1) := by
  refine CC.of rfl (Nat.le_of_ble_eq_true rfl) rfl (fun X C Tr => ?_)
  show V X 0 0 0 [some (.ref row), some (.int (nI most)), some (.ref run), some (.int (nI start)), some (.ref a), some (.int (nI mo)), none, none, none, none] [] M
  have hO0 := hO
  have hL0 := hL
  have hI0 := hI
  have hRn0 := hRn
  have hRw0 := hRw
  refine s_aload C 2 dX3_findPlaces_0 rfl rfl ?_
  refine s_iload C 4 dX3_findPlaces_2 rfl rfl ?_
  refine s_invV C 7 0 0 [] (mRv_of hO rfl) dX3_findPlaces_4 rfl m_X3_50 (c_run hO hL hI (by omega)) rfl rfl rfl ⟨by decide, by decide⟩ (Nat.le_of_ble_eq_true rfl) (by omega) (by omega) ?_
  rintro _ M1 ⟨rfl, rfl⟩
  dsimp only [Option.toList, List.cons_append, List.nil_append]
  have hR : M (if mo = 3 then ia else la) = some (1, .inr (1, rN mo n m, .inl (rG mo f ini))) := by unfold rN rG; split <;> assumption
  have hN : rN mo n m < 1000 := by unfold rN; split <;> omega
  refine s_astore C 9 dX3_findPlaces_7 rfl rfl rfl ?_
  dsimp only [List.set]
  refine s_iconst C 10 (nI 0) dX3_findPlaces_9 rfl (by decide) ?_
  refine s_istore C 12 dX3_findPlaces_10 rfl rfl rfl ?_
  dsimp only [List.set]
  refine s_iconst C 13 (nI 0) dX3_findPlaces_12 rfl (by decide) ?_
  refine s_istore C 15 dX3_findPlaces_13 rfl rfl rfl ?_
  dsimp only [List.set]
  have hR0 := hR
  suffices lp15 : ∀ (fu15 : Nat) (p c : Nat) (h9 : Nat → Int32) (M9 : mM), rN mo n m - p < fu15 → p ≤ rN mo n m → c ≤ most → (∀ l, 0 < l → l ≤ c → h9 l = oI (plc mo n m f ini (fun k => rr (start + k)) l)) → (∀ l, c < l → l ≤ most → ∀ x, x < p → mtP mo n m f ini (fun k => rr (start + k)) l x = false) → M9 row = some (tr, .inr (0, 25, .inl h9)) → mY row M M9 → V X 0 0 15 [some (.ref row), some (.int (nI most)), some (.ref run), some (.int (nI start)), some (.ref a), some (.int (nI mo)), some (.ref (if mo = 3 then ia else la)), some (.int (nI c)), some (.int (nI p)), none] [] M9 from lp15 (rN mo n m + 1) 0 0 _ _ (by omega) (by omega) (by omega) (fun l h1 h2 => by omega) (fun l h1 h2 x hx => by omega) hRw mY.rf
  intro fu15
  induction fu15 with
  | zero => intro p c h9 M9 hp0 hp hc hd hnm hRw hF; omega
  | succ fu15 ih15 =>
    intro p c h9 M9 hp0 hp hc hd hnm hRw hF
    have hO := hF.at hO0 (fun q => htr (by rw [q] at hO0; rw [hRw0] at hO0; cases hO0))
    have hL := hF.at hL0 (fun q => htr (by rw [q] at hL0; rw [hRw0] at hL0; cases hL0))
    have hI := hF.at hI0 (fun q => htr (by rw [q] at hI0; rw [hRw0] at hI0; cases hI0))
    have hRn := hF.at hRn0 (fun q => htr (by rw [q] at hRn0; rw [hRw0] at hRn0; cases hRn0))
    have hR := hF.at hR0 (fun q => htr (by rw [q] at hR0; rw [hRw0] at hR0; cases hR0))
    refine s_iload C 17 dX3_findPlaces_15 rfl rfl ?_
    refine s_aload C 19 dX3_findPlaces_17 rfl rfl ?_
    refine s_alen C 20 dX3_findPlaces_19 rfl hR (by decide) ?_
    refine s_icmp_geN C 98 23 dX3_findPlaces_20 (by decide) rfl (by omega) (by omega) (fun z20 => ?_) (fun z20 => ?_)
    · skip
      have hall : ∀ l, c < l → l ≤ most → plc mo n m f ini (fun k => rr (start + k)) l = none := fun l h1 h2 => plc_no (fun x hx => hnm l h1 h2 x (by omega)) (by omega)
      refine s_iload C 100 dX3_findPlaces_98 rfl rfl ?_
      refine s_iconst C 101 (nI 1) dX3_findPlaces_100 rfl (by decide) ?_
      refine s_iaddN C 102 dX3_findPlaces_101 rfl ?_
      refine s_istore C 104 dX3_findPlaces_102 rfl rfl rfl ?_
      dsimp only [List.set]
      suffices lp104 : ∀ (fu104 : Nat) (e : Nat) (h8 : Nat → Int32) (M8 : mM), most + 1 - e < fu104 → e ≤ most + 1 → c < e → (∀ l, 0 < l → l < e → h8 l = oI (plc mo n m f ini (fun k => rr (start + k)) l)) → M8 row = some (tr, .inr (0, 25, .inl h8)) → mY row M M8 → V X 0 0 104 [some (.ref row), some (.int (nI most)), some (.ref run), some (.int (nI start)), some (.ref a), some (.int (nI mo)), some (.ref (if mo = 3 then ia else la)), some (.int (nI c)), some (.int (nI e)), none] [] M8 from lp104 (most + 1) (c + 1) _ _ (by omega) (by omega) (by omega) (fun l h1 h2 => hd l h1 (by omega)) hRw hF
      intro fu104
      induction fu104 with
      | zero => intro e h8 M8 he0 he hce hd hRw hF; omega
      | succ fu104 ih104 =>
        intro e h8 M8 he0 he hce hd hRw hF
        have hO := hF.at hO0 (fun q => htr (by rw [q] at hO0; rw [hRw0] at hO0; cases hO0))
        have hL := hF.at hL0 (fun q => htr (by rw [q] at hL0; rw [hRw0] at hL0; cases hL0))
        have hI := hF.at hI0 (fun q => htr (by rw [q] at hI0; rw [hRw0] at hI0; cases hI0))
        have hRn := hF.at hRn0 (fun q => htr (by rw [q] at hRn0; rw [hRw0] at hRn0; cases hRn0))
        have hR := hF.at hR0 (fun q => htr (by rw [q] at hR0; rw [hRw0] at hR0; cases hR0))
        refine s_iload C 106 dX3_findPlaces_104 rfl rfl ?_
        refine s_iload_n C 107 dX3_findPlaces_106 rfl rfl ?_
        refine s_icmp_gtN C 129 110 dX3_findPlaces_107 (by decide) rfl (by omega) (by omega) (fun z107 => ?_) (fun z107 => ?_)
        · skip
          exact s_vret C dX3_findPlaces_129 Tr rfl ⟨rfl, h8, fun l h1 h2 => hd l h1 (by omega), hRw, hF⟩
        · skip
          refine s_iload C 112 dX3_findPlaces_110 rfl rfl ?_
          refine s_aload_n C 113 dX3_findPlaces_112 rfl rfl ?_
          refine s_alen C 114 dX3_findPlaces_113 rfl hRw (by decide) ?_
          refine s_icmp_geN C 129 117 dX3_findPlaces_114 (by decide) rfl (by omega) (by omega) (fun z114 => ?_) (fun z114 => ?_)
          · skip
            omega
          · skip
            refine s_aload_n C 118 dX3_findPlaces_117 rfl rfl ?_
            refine s_iload C 120 dX3_findPlaces_118 rfl rfl ?_
            refine s_bipush C 122 (-6) dX3_findPlaces_120 rfl (by decide) ?_
            refine s_iastU C 123 dX3_findPlaces_122 rfl hRw (by first | decide | omega) (by omega) (by omega) (fun M2 U3 => ?_)
            have hO := U3.o hRw hO (by first | decide | omega)
            have hL := U3.o hRw hL (by first | decide | omega)
            have hI := U3.o hRw hI (by first | decide | omega)
            have hRn := U3.o hRw hRn (by first | decide | omega)
            have hR := U3.o hRw hR (by first | decide | omega)
            have hF := hF.put U3 hRw (by first | decide | (simp; done) | (simp; omega) | (simp [*]; done))
            have hRw := U3.s
            refine s_iinc C 126 (nI (e + 1)) dX3_findPlaces_123 rfl rfl (by rw [← nI_add]; rfl) rfl ?_
            dsimp only [List.set]
            refine s_goto C 104 dX3_findPlaces_126 (by decide) ?_
            exact ih104 (e + 1) _ _ (by omega) (by omega) (by omega) (fun l h1 h2 => by by_cases q : l = e; (· rw [q, pk_us, hall e (by omega) (by omega)]; rfl); rw [pk_un q]; exact hd l h1 (by omega)) hRw hF
    · skip
      refine s_iload C 25 dX3_findPlaces_23 rfl rfl ?_
      refine s_iload_n C 26 dX3_findPlaces_25 rfl rfl ?_
      refine s_icmp_geN C 98 29 dX3_findPlaces_26 (by decide) rfl (by omega) (by omega) (fun z26 => ?_) (fun z26 => ?_)
      · skip
        have hall : ∀ l, c < l → l ≤ most → plc mo n m f ini (fun k => rr (start + k)) l = none := fun l h1 h2 => by omega
        refine s_iload C 100 dX3_findPlaces_98 rfl rfl ?_
        refine s_iconst C 101 (nI 1) dX3_findPlaces_100 rfl (by decide) ?_
        refine s_iaddN C 102 dX3_findPlaces_101 rfl ?_
        refine s_istore C 104 dX3_findPlaces_102 rfl rfl rfl ?_
        dsimp only [List.set]
        suffices lp104 : ∀ (fu104 : Nat) (e : Nat) (h8 : Nat → Int32) (M8 : mM), most + 1 - e < fu104 → e ≤ most + 1 → c < e → (∀ l, 0 < l → l < e → h8 l = oI (plc mo n m f ini (fun k => rr (start + k)) l)) → M8 row = some (tr, .inr (0, 25, .inl h8)) → mY row M M8 → V X 0 0 104 [some (.ref row), some (.int (nI most)), some (.ref run), some (.int (nI start)), some (.ref a), some (.int (nI mo)), some (.ref (if mo = 3 then ia else la)), some (.int (nI c)), some (.int (nI e)), none] [] M8 from lp104 (most + 1) (c + 1) _ _ (by omega) (by omega) (by omega) (fun l h1 h2 => hd l h1 (by omega)) hRw hF
        intro fu104
        induction fu104 with
        | zero => intro e h8 M8 he0 he hce hd hRw hF; omega
        | succ fu104 ih104 =>
          intro e h8 M8 he0 he hce hd hRw hF
          have hO := hF.at hO0 (fun q => htr (by rw [q] at hO0; rw [hRw0] at hO0; cases hO0))
          have hL := hF.at hL0 (fun q => htr (by rw [q] at hL0; rw [hRw0] at hL0; cases hL0))
          have hI := hF.at hI0 (fun q => htr (by rw [q] at hI0; rw [hRw0] at hI0; cases hI0))
          have hRn := hF.at hRn0 (fun q => htr (by rw [q] at hRn0; rw [hRw0] at hRn0; cases hRn0))
          have hR := hF.at hR0 (fun q => htr (by rw [q] at hR0; rw [hRw0] at hR0; cases hR0))
          refine s_iload C 106 dX3_findPlaces_104 rfl rfl ?_
          refine s_iload_n C 107 dX3_findPlaces_106 rfl rfl ?_
          refine s_icmp_gtN C 129 110 dX3_findPlaces_107 (by decide) rfl (by omega) (by omega) (fun z107 => ?_) (fun z107 => ?_)
          · skip
            exact s_vret C dX3_findPlaces_129 Tr rfl ⟨rfl, h8, fun l h1 h2 => hd l h1 (by omega), hRw, hF⟩
          · skip
            refine s_iload C 112 dX3_findPlaces_110 rfl rfl ?_
            refine s_aload_n C 113 dX3_findPlaces_112 rfl rfl ?_
            refine s_alen C 114 dX3_findPlaces_113 rfl hRw (by decide) ?_
            refine s_icmp_geN C 129 117 dX3_findPlaces_114 (by decide) rfl (by omega) (by omega) (fun z114 => ?_) (fun z114 => ?_)
            · skip
              omega
            · skip
              refine s_aload_n C 118 dX3_findPlaces_117 rfl rfl ?_
              refine s_iload C 120 dX3_findPlaces_118 rfl rfl ?_
              refine s_bipush C 122 (-6) dX3_findPlaces_120 rfl (by decide) ?_
              refine s_iastU C 123 dX3_findPlaces_122 rfl hRw (by first | decide | omega) (by omega) (by omega) (fun M4 U5 => ?_)
              have hO := U5.o hRw hO (by first | decide | omega)
              have hL := U5.o hRw hL (by first | decide | omega)
              have hI := U5.o hRw hI (by first | decide | omega)
              have hRn := U5.o hRw hRn (by first | decide | omega)
              have hR := U5.o hRw hR (by first | decide | omega)
              have hF := hF.put U5 hRw (by first | decide | (simp; done) | (simp; omega) | (simp [*]; done))
              have hRw := U5.s
              refine s_iinc C 126 (nI (e + 1)) dX3_findPlaces_123 rfl rfl (by rw [← nI_add]; rfl) rfl ?_
              dsimp only [List.set]
              refine s_goto C 104 dX3_findPlaces_126 (by decide) ?_
              exact ih104 (e + 1) _ _ (by omega) (by omega) (by omega) (fun l h1 h2 => by by_cases q : l = e; (· rw [q, pk_us, hall e (by omega) (by omega)]; rfl); rw [pk_un q]; exact hd l h1 (by omega)) hRw hF
      · skip
        refine s_aload C 31 dX3_findPlaces_29 rfl rfl ?_
        refine s_iload C 33 dX3_findPlaces_31 rfl rfl ?_
        refine s_cald C 34 dX3_findPlaces_33 rfl hR (by omega) (by omega) ?_
        refine s_aload_n C 35 dX3_findPlaces_34 rfl rfl ?_
        refine s_iload_n C 36 dX3_findPlaces_35 rfl rfl ?_
        refine s_cald C 37 dX3_findPlaces_36 rfl hRn (by omega) (by omega) ?_
        refine s_icmp_ne C 92 40 dX3_findPlaces_37 (by decide) rfl (fun z37 => ?_) (fun z37 => ?_)
        · skip
          have hlast : ∀ l, c < l → l ≤ most → mtP mo n m f ini (fun k => rr (start + k)) l p = false := fun l h1 h2 => mtP_1 (by omega) z37
          refine s_iinc C 95 (nI (p + 1)) dX3_findPlaces_92 rfl rfl (by rw [← nI_add]; rfl) rfl ?_
          dsimp only [List.set]
          refine s_goto C 15 dX3_findPlaces_95 (by decide) ?_
          exact ih15 (p + 1) _ _ _ (by omega) (by omega) (by omega) hd (fun l h1 h2 x hx => by by_cases e : x = p; (· rw [e]; exact hlast l h1 h2); exact hnm l (by omega) h2 x (by omega)) hRw hF
        · skip
          refine s_aload C 42 dX3_findPlaces_40 rfl rfl ?_
          refine s_iload C 44 dX3_findPlaces_42 rfl rfl ?_
          refine s_iload C 46 dX3_findPlaces_44 rfl rfl ?_
          refine s_invV C 49 0 0 [] (mRv_of hO rfl) dX3_findPlaces_46 rfl m_X3_54 (c_startsPiece (p := p) hO hL hI (by omega) (by omega) (by omega) (by omega)) rfl rfl rfl ⟨by decide, by decide⟩ (Nat.le_of_ble_eq_true rfl) (by omega) (by omega) ?_
          rintro _ M6 ⟨rfl, rfl⟩
          dsimp only [Option.toList, List.cons_append, List.nil_append]
          refine s_if_eqB C 92 52 dX3_findPlaces_49 (by decide) rfl (fun z49 => ?_) (fun z49 => ?_)
          · skip
            have hlast : ∀ l, c < l → l ≤ most → mtP mo n m f ini (fun k => rr (start + k)) l p = false := fun l h1 h2 => mtP_0 z49
            refine s_iinc C 95 (nI (p + 1)) dX3_findPlaces_92 rfl rfl (by rw [← nI_add]; rfl) rfl ?_
            dsimp only [List.set]
            refine s_goto C 15 dX3_findPlaces_95 (by decide) ?_
            exact ih15 (p + 1) _ _ _ (by omega) (by omega) (by omega) hd (fun l h1 h2 x hx => by by_cases e : x = p; (· rw [e]; exact hlast l h1 h2); exact hnm l (by omega) h2 x (by omega)) hRw hF
          · skip
            have hsp := z49
            refine s_aload_n C 53 dX3_findPlaces_52 rfl rfl ?_
            refine s_iload_n C 54 dX3_findPlaces_53 rfl rfl ?_
            refine s_aload C 56 dX3_findPlaces_54 rfl rfl ?_
            refine s_iload C 58 dX3_findPlaces_56 rfl rfl ?_
            refine s_iload_n C 59 dX3_findPlaces_58 rfl rfl ?_
            have hsl := sl_le (f := rr) (g := rG mo f ini) (n := N) (m := rN mo n m) most start p
            refine s_invS C 62 0 0 [] dX3_findPlaces_59 rfl m_X3_96 (c_sameLength hRn hR (by omega) (by omega) (by omega) (by omega) (by omega)) rfl rfl rfl ⟨by decide, by decide⟩ (Nat.le_of_ble_eq_true rfl) (by omega) (by omega) ?_
            rintro _ M7 ⟨rfl, rfl⟩
            dsimp only [Option.toList, List.cons_append, List.nil_append]
            refine s_istore C 64 dX3_findPlaces_62 rfl rfl rfl ?_
            dsimp only [List.set]
            suffices lp64 : ∀ (fu64 : Nat) (c2 : Nat) (h8 : Nat → Int32) (M8 : mM), most - c2 < fu64 → c2 ≤ most → c ≤ c2 → c2 ≤ max c (sl rr (rG mo f ini) N (rN mo n m) start p most) → (∀ l, 0 < l → l ≤ c2 → h8 l = oI (plc mo n m f ini (fun k => rr (start + k)) l)) → M8 row = some (tr, .inr (0, 25, .inl h8)) → mY row M M8 → V X 0 0 64 [some (.ref row), some (.int (nI most)), some (.ref run), some (.int (nI start)), some (.ref a), some (.int (nI mo)), some (.ref (if mo = 3 then ia else la)), some (.int (nI c2)), some (.int (nI p)), some (.int (nI (sl rr (rG mo f ini) N (rN mo n m) start p most)))] [] M8 from lp64 (most + 1) c _ _ (by omega) (by omega) (by omega) (by omega) hd hRw hF
            intro fu64
            induction fu64 with
            | zero => intro c2 h8 M8 hc20 hc2 hcc hcs hd hRw hF; omega
            | succ fu64 ih64 =>
              intro c2 h8 M8 hc20 hc2 hcc hcs hd hRw hF
              have hO := hF.at hO0 (fun q => htr (by rw [q] at hO0; rw [hRw0] at hO0; cases hO0))
              have hL := hF.at hL0 (fun q => htr (by rw [q] at hL0; rw [hRw0] at hL0; cases hL0))
              have hI := hF.at hI0 (fun q => htr (by rw [q] at hI0; rw [hRw0] at hI0; cases hI0))
              have hRn := hF.at hRn0 (fun q => htr (by rw [q] at hRn0; rw [hRw0] at hRn0; cases hRn0))
              have hR := hF.at hR0 (fun q => htr (by rw [q] at hR0; rw [hRw0] at hR0; cases hR0))
              refine s_iload C 66 dX3_findPlaces_64 rfl rfl ?_
              refine s_iload C 68 dX3_findPlaces_66 rfl rfl ?_
              refine s_icmp_geN C 92 71 dX3_findPlaces_68 (by decide) rfl (by omega) (by omega) (fun z68 => ?_) (fun z68 => ?_)
              · skip
                have hlast : ∀ l, c2 < l → l ≤ most → mtP mo n m f ini (fun k => rr (start + k)) l p = false := fun l h1 h2 => by cases e : mtP mo n m f ini (fun k => rr (start + k)) l p with | false => rfl | true => exact absurd ((mtP_sl hsp h2 hNm).mp e).1 (by omega)
                have hnm : ∀ l, c2 < l → l ≤ most → ∀ x, x < p → mtP mo n m f ini (fun k => rr (start + k)) l x = false := fun l h1 h2 x hx => hnm l (by omega) h2 x hx
                refine s_iinc C 95 (nI (p + 1)) dX3_findPlaces_92 rfl rfl (by rw [← nI_add]; rfl) rfl ?_
                dsimp only [List.set]
                refine s_goto C 15 dX3_findPlaces_95 (by decide) ?_
                refine V.drop 9 ?_
                dsimp only [List.set]
                exact ih15 (p + 1) _ _ _ (by omega) (by omega) (by omega) hd (fun l h1 h2 x hx => by by_cases e : x = p; (· rw [e]; exact hlast l h1 h2); exact hnm l (by omega) h2 x (by omega)) hRw hF
              · skip
                have hge := (sl_ge (f := rr) (g := rG mo f ini) (n := N) (m := rN mo n m) most start p (c2 + 1)).mp (by omega)
                have hpl2 : p + (c2 + 1) ≤ rN mo n m := by have := (hge.2 c2 (by omega)).2.1; omega
                have hnew : plc mo n m f ini (fun k => rr (start + k)) (c2 + 1) = some p := plc_yes ((mtP_sl hsp (by omega) hNm).mpr ⟨by omega, hpl2⟩) (fun x hx => hnm (c2 + 1) (by omega) (by omega) x hx)
                refine s_iload C 73 dX3_findPlaces_71 rfl rfl ?_
                refine s_iconst C 74 (nI 1) dX3_findPlaces_73 rfl (by decide) ?_
                refine s_iaddN C 75 dX3_findPlaces_74 rfl ?_
                refine s_aload_n C 76 dX3_findPlaces_75 rfl rfl ?_
                refine s_alen C 77 dX3_findPlaces_76 rfl hRw (by decide) ?_
                refine s_icmp_geN C 92 80 dX3_findPlaces_77 (by decide) rfl (by omega) (by omega) (fun z77 => ?_) (fun z77 => ?_)
                · skip
                  omega
                · skip
                  refine s_iinc C 83 (nI (c2 + 1)) dX3_findPlaces_80 rfl rfl (by rw [← nI_add]; rfl) rfl ?_
                  dsimp only [List.set]
                  refine s_aload_n C 84 dX3_findPlaces_83 rfl rfl ?_
                  refine s_iload C 86 dX3_findPlaces_84 rfl rfl ?_
                  refine s_iload C 88 dX3_findPlaces_86 rfl rfl ?_
                  refine s_iastU C 89 dX3_findPlaces_88 rfl hRw (by first | decide | omega) (by omega) (by omega) (fun M8 U9 => ?_)
                  have hO := U9.o hRw hO (by first | decide | omega)
                  have hL := U9.o hRw hL (by first | decide | omega)
                  have hI := U9.o hRw hI (by first | decide | omega)
                  have hRn := U9.o hRw hRn (by first | decide | omega)
                  have hR := U9.o hRw hR (by first | decide | omega)
                  have hF := hF.put U9 hRw (by first | decide | (simp; done) | (simp; omega) | (simp [*]; done))
                  have hRw := U9.s
                  refine s_goto C 64 dX3_findPlaces_89 (by decide) ?_
                  exact ih64 (c2 + 1) _ _ (by omega) (by omega) (by omega) (by omega) (fun l h1 h2 => by by_cases e : l = c2 + 1; (· rw [e, pk_us, hnew]; rfl); rw [pk_un e]; exact hd l h1 (by omega)) hRw hF
