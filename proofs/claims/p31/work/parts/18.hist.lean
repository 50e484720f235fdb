/-! states as values; the history -/
/-- a state: how many titles, mode, order, the query's length and characters, the titles' lengths, letters, uses -/
abbrev mSt : Type := Nat × Nat × Nat × Nat × (Nat → Int32) × (Nat → Nat) × (Nat → Nat → Int32) × (Nat → Int32)
def sS (G : mG) (M : mM) (k s : Nat) (x : mSt) : Prop := ∃ q, (∀ y, y < x.2.2.2.1 → q y = x.2.2.2.2.1 y) ∧ (∀ y, y < 24 → vp_nar .char (q y) = q y) ∧ sR G M k s x.1 x.2.1 x.2.2.1 x.2.2.2.1 q x.2.2.2.2.2.1 x.2.2.2.2.2.2.1 x.2.2.2.2.2.2.2
theorem sS.at {G : mG} {Ts : List Nat} {M M1 : mM} {k s : Nat} {x : mSt} (hF : mZ Ts M M1) (h0 : 0 ∉ Ts) (h1 : 1 ∉ Ts) (hk : ∀ j, j < 4 → 100 + 10 * k + j ∉ Ts) (h : sS G M k s x) : sS G M1 k s x := by
  obtain ⟨q, g1, g2, g3⟩ := h
  have e1 := hk 1 (by omega)
  have e2 := hk 2 (by omega)
  have e3 := hk 3 (by omega)
  rw [show 100 + 10 * k + 1 = 101 + 10 * k by omega] at e1
  rw [show 100 + 10 * k + 2 = 102 + 10 * k by omega] at e2
  rw [show 100 + 10 * k + 3 = 103 + 10 * k by omega] at e3
  exact ⟨q, g1, g2, g3.at hF h0 h1 (hk 0 (by omega)) e1 e2 e3⟩
theorem sS_rv {G : mG} {M : mM} {k s : Nat} {x : mSt} (h : sS G M k s x) : mRv G M RX2 s := by
  obtain ⟨q, -, -, h3⟩ := h
  exact sR_rv h3
def st0 : mSt := (0, 0, 0, 0, fun _ => 0, fun _ => 0, fun _ _ => 0, fun _ => 0)
/-- History's cells: c saved states, the newest first -/
def hR (G : mG) (M : mM) (h c : Nat) (hs : Nat → mSt) : Prop := ∃ (ra nw : Nat) (g : Nat → Option Nat) (rs : Nat → Nat), M h = some (50, .inl (1, [.ref ra, .int (nI nw), .int (nI c)])) ∧ M ra = some (51, .inr (3, 6, .inr g)) ∧ nw < 6 ∧ c ≤ 6 ∧ (∀ i, i < 6 → g i = some (rs i)) ∧ (∀ i, i < 6 → ∃ x, sS G M (2 + i) (rs i) x) ∧ ∀ j, j < c → sS G M (2 + (nw + 6 - j) % 6) (rs ((nw + 6 - j) % 6)) (hs j)
/-- the tags of the history's cells -/
def TH : List Nat := 50 :: (List.range 54).map (fun i => 120 + i)
theorem mem_TH {t : Nat} : t ∈ TH ↔ t = 50 ∨ (120 ≤ t ∧ t < 174) := by
  unfold TH
  simp only [List.mem_cons, List.mem_map, List.mem_range]
  constructor
  · rintro (h | ⟨i, hi, h⟩) <;> omega
  · rintro (h | h)
    · exact Or.inl h
    · exact Or.inr ⟨t - 120, by omega, by omega⟩
theorem hR.at {G : mG} {Ts : List Nat} {M M1 : mM} {h c : Nat} {hs : Nat → mSt} (hF : mZ Ts M M1) (h0 : 0 ∉ Ts) (h1 : 1 ∉ Ts) (h51 : 51 ∉ Ts) (hT : ∀ t, t ∈ TH → t ∉ Ts) (hh : hR G M h c hs) : hR G M1 h c hs := by
  obtain ⟨ra, nw, g, rs, g1, g2, g3, g4, g5, g6, g7⟩ := hh
  exact ⟨ra, nw, g, rs, hF.at g1 (hT 50 (by rw [mem_TH]; omega)), hF.at g2 h51, g3, g4, g5, fun i hi => by
    obtain ⟨x, hx⟩ := g6 i hi
    exact ⟨x, hx.at hF h0 h1 (fun j hj => hT _ (by rw [mem_TH]; omega))⟩, fun j hj => (g7 j hj).at hF h0 h1 (fun i hi => hT _ (by rw [mem_TH]; omega))⟩
theorem hR_rv {G : mG} {M : mM} {h c : Nat} {hs : Nat → mSt} (hh : hR G M h c hs) : mRv G M RX0 h := by
  obtain ⟨ra, nw, g, rs, g1, -⟩ := hh
  exact mRv_of g1 rfl
/-- how the history is after one state more -/
def hPush (x : mSt) (hs : Nat → mSt) : Nat → mSt := fun j => if j = 0 then x else hs (j - 1)
set_option maxRecDepth 100000 in
set_option maxHeartbeats 4000000 in
theorem c_save {G : mG} {M : mM} {h c k s : Nat} {hs : Nat → mSt} {x : mSt} (hh : hR G M h c hs) (hx : sS G M k s x) (hk : k < 2) : CC G iX0_save 16 352 [.ref h, .ref s] M (fun r M1 => r = none ∧ hR G M1 h (min (c + 1) 6) (hPush x hs) ∧ sS G M1 k s x ∧ mZ TH M M1) := by
  refine CC.of rfl (Nat.le_of_ble_eq_true rfl) rfl (fun X C Tr => ?_)
  show V X 16 352 0 [some (.ref h), some (.ref s)] [] M
  obtain ⟨ra, nw, g, rs, hH, hA0, hnw, hc6, hg, hrow, hst⟩ := hh
  have hF : mZ [50] M M := mZ.rf
  have hfin : ∀ nw2 M2 M3 M4, nw2 = (nw + 1) % 6 → nw2 < 6 → mZ [50] M M2 → M4 h = some (50, .inl (1, [.ref ra, .int (nI nw2), .int (nI (min (c + 1) 6))])) → M4 ra = some (51, .inr (3, 6, .inr g)) → mZ [100 + 10 * (2 + nw2), 101 + 10 * (2 + nw2), 102 + 10 * (2 + nw2), 103 + 10 * (2 + nw2)] M2 M3 → mZ [50] M3 M4 → sS G M3 (2 + nw2) (rs nw2) x → hR G M4 h (min (c + 1) 6) (hPush x hs) ∧ sS G M4 k s x ∧ mZ TH M M4 := by
    intro nw2 M2 M3 M4 e1 e2 f1 hH hA0 f2 f3 hs3
    have hN : ∀ i y, i < 6 → i ≠ nw2 → sS G M (2 + i) (rs i) y → sS G M4 (2 + i) (rs i) y := fun i y hi hne hy => ((hy.at f1 (by first | (simp; done) | (simp; omega)) (by first | (simp; done) | (simp; omega)) (fun j hj => by first | (simp; done) | (simp; omega))).at f2 (by first | (simp; done) | (simp; omega)) (by first | (simp; done) | (simp; omega)) (fun j hj => by first | (simp; done) | (simp; omega))).at f3 (by first | (simp; done) | (simp; omega)) (by first | (simp; done) | (simp; omega)) (fun j hj => by first | (simp; done) | (simp; omega))
    have hs4 := hs3.at f3 (by first | (simp; done) | (simp; omega)) (by first | (simp; done) | (simp; omega)) (fun j hj => by first | (simp; done) | (simp; omega))
    refine ⟨⟨ra, nw2, g, rs, hH, hA0, e2, by omega, hg, fun i hi => ?_, fun j hj => ?_⟩, ((hx.at f1 (by first | (simp; done) | (simp; omega)) (by first | (simp; done) | (simp; omega)) (fun j hj => by first | (simp; done) | (simp; omega))).at f2 (by first | (simp; done) | (simp; omega)) (by first | (simp; done) | (simp; omega)) (fun j hj => by first | (simp; done) | (simp; omega))).at f3 (by first | (simp; done) | (simp; omega)) (by first | (simp; done) | (simp; omega)) (fun j hj => by first | (simp; done) | (simp; omega)), ((f1.mono (fun t ht => by rw [mem_TH]; simp at ht; omega)).tr (f2.mono (fun t ht => by rw [mem_TH]; simp at ht; omega))).tr (f3.mono (fun t ht => by rw [mem_TH]; simp at ht; omega))⟩
    · by_cases e : i = nw2
      · exact ⟨x, by rw [e]; exact hs4⟩
      · obtain ⟨y, hy⟩ := hrow i hi
        exact ⟨y, hN i y hi e hy⟩
    · unfold hPush
      by_cases e : j = 0
      · rw [if_pos e, show (nw2 + 6 - j) % 6 = nw2 by omega]; exact hs4
      · rw [if_neg e]
        have h1 := hst (j - 1) (by omega)
        rw [show (nw + 6 - (j - 1)) % 6 = (nw2 + 6 - j) % 6 by omega] at h1
        exact hN _ _ (by omega) (by omega) h1
  refine s_aload_n C 1 dX0_save_0 rfl rfl ?_
  refine s_aload_n C 2 dX0_save_1 rfl rfl ?_
  refine s_getf C 5 dX0_save_2 rfl f_X0_18 hH rfl ?_
  refine s_iconst C 6 (nI 1) dX0_save_5 rfl (by decide) ?_
  refine s_iaddN C 7 dX0_save_6 rfl ?_
  refine s_aload_n C 8 dX0_save_7 rfl rfl ?_
  refine s_getf C 11 dX0_save_8 rfl f_X0_11 hH rfl ?_
  refine s_alen C 12 dX0_save_11 rfl hA0 (by decide) ?_
  refine s_icmp_geN C 24 15 dX0_save_12 (by decide) rfl (by omega) (by omega) (fun z12 => ?_) (fun z12 => ?_)
  · skip
    refine s_iconst C 25 (nI 0) dX0_save_24 rfl (by decide) ?_
    refine s_putU C 28 dX0_save_25 rfl p_X0_18 hH (by first | decide | omega) rfl rfl rfl (fs' := [.ref ra, .int (nI 0), .int (nI c)]) rfl (fun M1 U2 => ?_)
    have hA0 := U2.o hH hA0 (by first | decide | omega)
    have hF := hF.put U2 hH (by first | decide | (simp; done) | (simp; omega) | (simp [*]; done))
    have hH := U2.s
    refine s_aload_n C 29 dX0_save_28 rfl rfl ?_
    refine s_getf C 32 dX0_save_29 rfl f_X0_11 hH rfl ?_
    refine s_aload_n C 33 dX0_save_32 rfl rfl ?_
    refine s_getf C 36 dX0_save_33 rfl f_X0_18 hH rfl ?_
    refine s_aald C 37 dX0_save_36 rfl hA0 (by decide) (by omega) (by omega) ?_
    rw [hg 0 (by omega)]
    dsimp only [va_rf]
    refine s_aload_n C 38 dX0_save_37 rfl rfl ?_
    obtain ⟨x1, q1, -, hqn1, hs1⟩ := hrow 0 (by omega)
    obtain ⟨q2, hq2, hqn2, hs2⟩ := hx
    have hs1 := hs1.at hF (by first | (simp; done) | (simp; omega)) (by first | (simp; done) | (simp; omega)) (by first | (simp; done) | (simp; omega)) (by first | (simp; done) | (simp; omega)) (by first | (simp; done) | (simp; omega)) (by first | (simp; done) | (simp; omega))
    have hs2 := hs2.at hF (by first | (simp; done) | (simp; omega)) (by first | (simp; done) | (simp; omega)) (by first | (simp; done) | (simp; omega)) (by first | (simp; done) | (simp; omega)) (by first | (simp; done) | (simp; omega)) (by first | (simp; done) | (simp; omega))
    refine s_invV C 41 0 0 [] (sR_rv hs1) dX0_save_38 rfl m_X0_22 (c_copyFrom hs1 hs2 (by omega) hqn2) rfl rfl rfl ⟨by decide, by decide⟩ (Nat.le_of_ble_eq_true rfl) (by omega) (by omega) ?_
    rintro _ M3 ⟨rfl, qj, hqj, hs3, hFc⟩
    dsimp only [Option.toList, List.cons_append, List.nil_append]
    have hH := hFc.at hH (by first | (simp; done) | (simp; omega))
    have hA0 := hFc.at hA0 (by first | (simp; done) | (simp; omega))
    have hql2 : x.2.2.2.1 ≤ 24 := by obtain ⟨_, _, _, _, _, _, _, _, _, _, _, _, h9, _⟩ := hs2; exact h9
    have hFe : mZ [50] M3 M3 := mZ.rf
    refine s_aload_n C 42 dX0_save_41 rfl rfl ?_
    refine s_aload_n C 43 dX0_save_42 rfl rfl ?_
    refine s_getf C 46 dX0_save_43 rfl f_X0_26 hH rfl ?_
    refine s_iconst C 47 (nI 1) dX0_save_46 rfl (by decide) ?_
    refine s_iaddN C 48 dX0_save_47 rfl ?_
    refine s_aload_n C 49 dX0_save_48 rfl rfl ?_
    refine s_getf C 52 dX0_save_49 rfl f_X0_11 hH rfl ?_
    refine s_alen C 53 dX0_save_52 rfl hA0 (by decide) ?_
    refine s_minN C 56 dX0_save_53 rfl mm_X0_29 rfl (by decide) (Nat.le_of_ble_eq_true rfl) (by omega) (by omega) ?_
    refine s_putU C 59 dX0_save_56 rfl p_X0_26 hH (by first | decide | omega) rfl rfl rfl (fs' := [.ref ra, .int (nI 0), .int (nI (min (c + 1) 6))]) rfl (fun M4 U5 => ?_)
    have hA0 := U5.o hH hA0 (by first | decide | omega)
    have hFe := hFe.put U5 hH (by first | decide | (simp; done) | (simp; omega) | (simp [*]; done))
    have hH := U5.s
    exact s_vret C dX0_save_59 Tr rfl ⟨rfl, hfin 0 _ _ _ (by omega) (by omega) hF hH hA0 hFc hFe ⟨qj, fun y hy => by rw [hqj y (by omega)]; exact hq2 y hy, fun y hy => by rw [hqj y hy]; exact hqn2 y hy, hs3⟩⟩
  · skip
    refine s_aload_n C 16 dX0_save_15 rfl rfl ?_
    refine s_getf C 19 dX0_save_16 rfl f_X0_18 hH rfl ?_
    refine s_iconst C 20 (nI 1) dX0_save_19 rfl (by decide) ?_
    refine s_iaddN C 21 dX0_save_20 rfl ?_
    refine s_goto C 25 dX0_save_21 (by decide) ?_
    refine s_putU C 28 dX0_save_25 rfl p_X0_18 hH (by first | decide | omega) rfl rfl rfl (fs' := [.ref ra, .int (nI (nw + 1)), .int (nI c)]) rfl (fun M6 U7 => ?_)
    have hA0 := U7.o hH hA0 (by first | decide | omega)
    have hF := hF.put U7 hH (by first | decide | (simp; done) | (simp; omega) | (simp [*]; done))
    have hH := U7.s
    refine s_aload_n C 29 dX0_save_28 rfl rfl ?_
    refine s_getf C 32 dX0_save_29 rfl f_X0_11 hH rfl ?_
    refine s_aload_n C 33 dX0_save_32 rfl rfl ?_
    refine s_getf C 36 dX0_save_33 rfl f_X0_18 hH rfl ?_
    refine s_aald C 37 dX0_save_36 rfl hA0 (by decide) (by omega) (by omega) ?_
    rw [hg (nw + 1) (by omega)]
    dsimp only [va_rf]
    refine s_aload_n C 38 dX0_save_37 rfl rfl ?_
    obtain ⟨x1, q1, -, hqn1, hs1⟩ := hrow (nw + 1) (by omega)
    obtain ⟨q2, hq2, hqn2, hs2⟩ := hx
    have hs1 := hs1.at hF (by first | (simp; done) | (simp; omega)) (by first | (simp; done) | (simp; omega)) (by first | (simp; done) | (simp; omega)) (by first | (simp; done) | (simp; omega)) (by first | (simp; done) | (simp; omega)) (by first | (simp; done) | (simp; omega))
    have hs2 := hs2.at hF (by first | (simp; done) | (simp; omega)) (by first | (simp; done) | (simp; omega)) (by first | (simp; done) | (simp; omega)) (by first | (simp; done) | (simp; omega)) (by first | (simp; done) | (simp; omega)) (by first | (simp; done) | (simp; omega))
    refine s_invV C 41 0 0 [] (sR_rv hs1) dX0_save_38 rfl m_X0_22 (c_copyFrom hs1 hs2 (by omega) hqn2) rfl rfl rfl ⟨by decide, by decide⟩ (Nat.le_of_ble_eq_true rfl) (by omega) (by omega) ?_
    rintro _ M8 ⟨rfl, qj, hqj, hs3, hFc⟩
    dsimp only [Option.toList, List.cons_append, List.nil_append]
    have hH := hFc.at hH (by first | (simp; done) | (simp; omega))
    have hA0 := hFc.at hA0 (by first | (simp; done) | (simp; omega))
    have hql2 : x.2.2.2.1 ≤ 24 := by obtain ⟨_, _, _, _, _, _, _, _, _, _, _, _, h9, _⟩ := hs2; exact h9
    have hFe : mZ [50] M8 M8 := mZ.rf
    refine s_aload_n C 42 dX0_save_41 rfl rfl ?_
    refine s_aload_n C 43 dX0_save_42 rfl rfl ?_
    refine s_getf C 46 dX0_save_43 rfl f_X0_26 hH rfl ?_
    refine s_iconst C 47 (nI 1) dX0_save_46 rfl (by decide) ?_
    refine s_iaddN C 48 dX0_save_47 rfl ?_
    refine s_aload_n C 49 dX0_save_48 rfl rfl ?_
    refine s_getf C 52 dX0_save_49 rfl f_X0_11 hH rfl ?_
    refine s_alen C 53 dX0_save_52 rfl hA0 (by decide) ?_
    refine s_minN C 56 dX0_save_53 rfl mm_X0_29 rfl (by decide) (Nat.le_of_ble_eq_true rfl) (by omega) (by omega) ?_
    refine s_putU C 59 dX0_save_56 rfl p_X0_26 hH (by first | decide | omega) rfl rfl rfl (fs' := [.ref ra, .int (nI (nw + 1)), .int (nI (min (c + 1) 6))]) rfl (fun M9 U10 => ?_)
    have hA0 := U10.o hH hA0 (by first | decide | omega)
    have hFe := hFe.put U10 hH (by first | decide | (simp; done) | (simp; omega) | (simp [*]; done))
    have hH := U10.s
    exact s_vret C dX0_save_59 Tr rfl ⟨rfl, hfin (nw + 1) _ _ _ (by omega) (by omega) hF hH hA0 hFc hFe ⟨qj, fun y hy => by rw [hqj y (by omega)]; exact hq2 y hy, fun y hy => by rw [hqj y hy]; exact hqn2 y hy, hs3⟩⟩

set_option maxRecDepth 100000 in
set_option maxHeartbeats 4000000 in
theorem c_histInit {G : mG} {M : mM} {h : Nat} {g0 : Nat → Option Nat} {hs : Nat → mSt} (hH : M h = some (50, .inl (1, [.null, .int 0, .int 0]))) (hE0 : M G.2.2.2.2.2.2.1 = some (0, .inr (2, 0, .inr g0))) : CC G iX0_init 19 198 [.ref h] M (fun r M1 => r = none ∧ hR G M1 h 0 hs ∧ mZ TH M M1) := by
  refine CC.of rfl (Nat.le_of_ble_eq_true rfl) rfl (fun X C Tr => ?_)
  show V X 19 198 0 [some (.ref h), none] [] M
  have hF : mZ [50] M M := mZ.rf
  refine s_aload_n C 1 dX0_init_0 rfl rfl ?_
  refine s_oi C 4 dX0_init_1 rfl oi_X0_3 rfl (by decide) (Nat.le_of_ble_eq_true rfl) ?_
  refine s_aload_n C 5 dX0_init_4 rfl rfl ?_
  refine s_bipush C 7 (nI 6) dX0_init_5 rfl (by decide) ?_
  refine s_newqU C 10 18 192 51 dX0_init_7 rfl (Or.inr ⟨rfl, rfl⟩) k_X0_9 (by decide) (by decide) (by decide) (by decide) (fun ra M1 hnra U1 => ?_)
  have hH := U1.n hnra hH
  have hnra0 := hF.no hnra
  have hF := hF.new U1 hnra
  have hA0 := U1.s
  refine s_putFU C 13 dX0_init_10 rfl p_X0_11 rfl hH (by first | decide | omega) rfl rfl rfl (fs' := [.ref ra, .int 0, .int 0]) rfl (fun M2 U3 => ?_)
  have hA0 := U3.o hH hA0 (by first | decide | omega)
  have hF := hF.put U3 hH (by first | decide | (simp; done) | (simp; omega) | (simp [*]; done))
  have hH := U3.s
  refine s_iconst C 14 (nI 0) dX0_init_13 rfl (by decide) ?_
  refine s_istore_n C 15 dX0_init_14 rfl rfl rfl ?_
  dsimp only [List.set]
  have hF : mZ TH M M2 := hF.mono (fun t ht => by rw [mem_TH]; simp at ht; omega)
  have hE0 := hF.at hE0 (by rw [mem_TH]; omega)
  suffices lp15 : ∀ (fu15 : Nat) (i : Nat) (g9 : Nat → Option Nat) (rs9 : Nat → Nat) (M9 : mM), 6 - i < fu15 → i ≤ 6 → M9 h = some (50, .inl (1, [.ref ra, .int 0, .int 0])) → M9 ra = some (51, .inr (3, 6, .inr g9)) → (∀ j, j < i → g9 j = some (rs9 j)) → (∀ j, j < i → sS G M9 (2 + j) (rs9 j) st0) → mZ TH M M9 → M9 G.2.2.2.2.2.2.1 = some (0, .inr (2, 0, .inr g0)) → M ra = none → V X (18 - 3 * i) (192 - 32 * i) 15 [some (.ref h), some (.int (nI i))] [] M9 from lp15 7 0 (fun _ => none) (fun _ => 0) _ (by omega) (by omega) hH hA0 (fun j hj => by omega) (fun j hj => by omega) hF hE0 hnra0
  intro fu15
  induction fu15 with
  | zero => intro i g9 rs9 M9 hi0 hi hH hA0 hg hrow hF hE0 hnra; omega
  | succ fu15 ih15 =>
    intro i g9 rs9 M9 hi0 hi hH hA0 hg hrow hF hE0 hnra
    refine s_iload_n C 16 dX0_init_15 rfl rfl ?_
    refine s_aload_n C 17 dX0_init_16 rfl rfl ?_
    refine s_getf C 20 dX0_init_17 rfl f_X0_11 hH rfl ?_
    refine s_alen C 21 dX0_init_20 rfl hA0 (by decide) ?_
    refine s_icmp_geN C 43 24 dX0_init_21 (by decide) rfl (by omega) (by omega) (fun z21 => ?_) (fun z21 => ?_)
    · skip
      exact s_vret C dX0_init_43 Tr rfl ⟨rfl, ⟨ra, 0, g9, rs9, hH, hA0, by omega, by omega, fun j hj => hg j (by omega), fun j hj => ⟨_, hrow j (by omega)⟩, fun j hj => absurd hj (Nat.not_lt_zero _)⟩, hF⟩
    · skip
      refine s_aload_n C 25 dX0_init_24 rfl rfl ?_
      refine s_getf C 28 dX0_init_25 rfl f_X0_11 hH rfl ?_
      refine s_iload_n C 29 dX0_init_28 rfl rfl ?_
      refine s_newU C 32 (18 - 3 * i - 1) (192 - 32 * i - 5) (100 + 10 * (2 + i)) dX0_init_29 rfl n_X0_9 (by first | decide | omega) (by omega) (by first | omega | (show _ + _ ≤ _; simp only [List.length_cons, List.length_nil]; omega)) (fun s1 M4 hns1 U5 => ?_)
      have hH := U5.n hns1 hH
      have hA0 := U5.n hns1 hA0
      have hns10 := hF.no hns1
      have hF := hF.new U5 hns1
      have hS1 := U5.s
      refine s_dup C 33 dX0_init_32 rfl rfl ?_
      have hE0 := U5.n hns1 hE0
      have hFn : mZ [] M9 M4 := mZ.rf.new U5 hns1
      refine s_invN C 36 (18 - 3 * i - 3) (192 - 32 * i - 32) [.ref s1, .int (nI i), .ref ra] dX0_init_33 rfl m_X0_17 (c_stateInit hS1 hE0) rfl rfl rfl ⟨by decide, by decide⟩ (Nat.le_of_ble_eq_true rfl) (by omega) (by omega) ?_
      rintro _ M6 ⟨rfl, hsi, hFi⟩
      dsimp only [Option.toList, List.cons_append, List.nil_append]
      have hrow1 := fun j hj => ((hrow j hj).at hFn (by first | (simp; done) | (simp; omega)) (by first | (simp; done) | (simp; omega)) (fun _ _ => by first | (simp; done) | (simp; omega))).at hFi (by first | (simp; done) | (simp; omega)) (by first | (simp; done) | (simp; omega)) (fun _ _ => by first | (simp; done) | (simp; omega))
      obtain ⟨_, _, _, _, _, _, hSn, -⟩ := hsi (fun _ => 0) (fun _ _ => 0) (fun _ => 0)
      have hH := hFi.at hH (by first | (simp; done) | (simp; omega))
      have hA0 := hFi.at hA0 (by first | (simp; done) | (simp; omega))
      have hE0 := hFi.at hE0 (by first | (simp; done) | (simp; omega))
      have hFm : mZ TH M M6 := hF.tr (hFi.mono (fun t ht => by rw [mem_TH]; simp at ht; omega))
      have hFx : mZ [51] M6 M6 := mZ.rf
      refine s_aastU C 37 dX0_init_36 rfl hA0 (by first | decide | omega) (Or.inr ⟨rfl, rfl⟩) hSn rfl (Or.inr rfl) (by omega) (by omega) (fun M7 U8 => ?_)
      have hH := U8.o hA0 hH (by first | decide | omega)
      have hSn := U8.o hA0 hSn (by first | decide | omega)
      have hFx := hFx.put U8 hA0 (by first | decide | (simp; done) | (simp; omega) | (simp [*]; done))
      have hA0 := U8.s
      have hnew : sS G M7 (2 + i) s1 st0 := ⟨fun _ => 0, fun _ _ => rfl, fun _ _ => by show vp_nar .char 0 = 0; decide, (hsi _ _ _).at hFx (by first | (simp; done) | (simp; omega)) (by first | (simp; done) | (simp; omega)) (by first | (simp; done) | (simp; omega)) (by first | (simp; done) | (simp; omega)) (by first | (simp; done) | (simp; omega)) (by first | (simp; done) | (simp; omega))⟩
      have hold := fun j hj => (hrow1 j hj).at hFx (by first | (simp; done) | (simp; omega)) (by first | (simp; done) | (simp; omega)) (fun _ _ => by first | (simp; done) | (simp; omega))
      have hE0 := hFx.at hE0 (by first | (simp; done) | (simp; omega))
      have hFt := hFm.putn U8 hnra
      refine s_iinc C 40 (nI (i + 1)) dX0_init_37 rfl rfl (by rw [← nI_add]; rfl) rfl ?_
      dsimp only [List.set]
      refine s_goto C 15 dX0_init_40 (by decide) ?_
      refine V.widen (bc' := 18 - 3 * (i + 1)) (bs' := 192 - 32 * (i + 1)) (by omega) (by omega) ?_
      exact ih15 (i + 1) _ (fun j => if j = i then s1 else rs9 j) _ (by omega) (by omega) hH hA0 (fun j hj => by by_cases e : j = i; (· rw [e, if_pos rfl]; exact va_up_self _ _ _); rw [if_neg e]; exact (va_up_ne _ _ e).trans (hg j (by omega))) (fun j hj => by by_cases e : j = i; (· rw [e, if_pos rfl]; exact hnew); rw [if_neg e]; exact hold j (by omega)) hFt hE0 hnra
