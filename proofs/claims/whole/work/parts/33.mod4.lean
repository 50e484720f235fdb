/-! the reference's commands -/
theorem po_aa {g : Nat → Int32} {n p i o : Nat} (hio : i = 0 ∧ o = 4 ∨ i = 4 ∧ o = 0) (h97 : tyA g n p = nI 97) (h2 : ¬ tyA g n (p + 1) = nI (wdC o 1)) : po g n p 0 7 0 = (if mW0 g n p i = wdL i then (some i, p + wdL i) else (none, p + mW0 g n p i)) ∧ mW0 g n p i = mw g n p i 1 (wdL i - 1) := by
  have hi : i < 14 := by omega
  have h0 : tyA g n p = nI (wdC i 0) := by
    rw [h97]
    rcases hio with ⟨rfl, rfl⟩ | ⟨rfl, rfl⟩ <;> rfl
  have hp := ((tyA_eq (by omega)).mp h97).1
  have h1 := mW0_2 hi h0
  have hm := mw_le (g := g) (n := n) (p := p) (i := i) (wdL i - 1) 1 (by omega)
  refine ⟨po_one 7 0 0 (Nat.zero_le _) (by omega) (Nat.zero_le _) (fun j _ h4 h5 => ?_), h1⟩
  have hl := (wd_c j (by omega)).1
  by_cases e : j = o
  · have := mW0_1 (j := j) (by omega) (by rw [e]; exact h2)
    omega
  · have h6 : j = 1 ∨ j = 2 ∨ j = 3 ∨ j = 5 ∨ j = 6 := by omega
    have h7 : mW0 g n p j = 0 := by
      refine mW0_0 (by omega) ?_
      rw [h97]
      rcases h6 with rfl | rfl | rfl | rfl | rfl <;> exact nI_ne (by decide) (by decide) (by decide)
    omega
theorem cm_whole {g : Nat → Int32} {n p i : Nat} (h : po g n p 0 7 0 = if mW0 g n p i = wdL i then (some i, p + wdL i) else (none, p + mW0 g n p i)) (hw : mW0 g n p i = wdL i) : cmK g n p = some i ∧ cmP g n p = p + mW0 g n p i := by
  unfold cmK cmP
  rw [h, if_pos hw, hw]
  exact ⟨rfl, rfl⟩
theorem cm_half {g : Nat → Int32} {n p q : Nat} (h : po g n p 0 7 0 = (none, q)) : cmO g n p = false ∧ cmA g n p = q := by
  have hK : cmK g n p = none := by unfold cmK; rw [h]
  have hP : cmP g n p = q := by unfold cmP; rw [h]
  refine ⟨?_, ?_⟩
  · unfold cmO; rw [hK]
  · unfold cmA; rw [hK]; exact hP
theorem cm_part {g : Nat → Int32} {n p i : Nat} (h : po g n p 0 7 0 = if mW0 g n p i = wdL i then (some i, p + wdL i) else (none, p + mW0 g n p i)) (hw : ¬ mW0 g n p i = wdL i) : cmO g n p = false ∧ cmA g n p = p + mW0 g n p i := by
  rw [if_neg hw] at h
  exact cm_half h
theorem cm_t {g : Nat → Int32} {n p k : Nat} (hk : k = 0 ∨ k = 4) (hK : cmK g n p = some k) : cmO g n p = (!(ptF g n 24 (cmP g n p) true).2) ∧ cmA g n p = (ptF g n 24 (cmP g n p) true).1 := by
  unfold cmO cmA
  rw [hK]
  rcases hk with rfl | rfl <;> exact ⟨rfl, rfl⟩
theorem cm_n {g : Nat → Int32} {n p k : Nat} (hk : k = 1 ∨ k = 5) (hK : cmK g n p = some k) : cmO g n p = decide (0 < pnN g n (cmP g n p)) ∧ cmA g n p = cmP g n p + pnN g n (cmP g n p) ∧ cmV g n p = pnV g n (cmP g n p) := by
  unfold cmO cmA cmV
  rw [hK]
  rcases hk with rfl | rfl <;> exact ⟨rfl, rfl, rfl⟩
theorem cm_m {g : Nat → Int32} {n p : Nat} (hK : cmK g n p = some 2) : cmO g n p = (po g n (cmP g n p) 7 4 0).1.isSome ∧ cmA g n p = (po g n (cmP g n p) 7 4 0).2 ∧ cmV g n p = (po g n (cmP g n p) 7 4 0).1.getD 7 - 7 := by
  unfold cmO cmA cmV
  rw [hK]
  exact ⟨rfl, rfl, rfl⟩
theorem cm_o {g : Nat → Int32} {n p : Nat} (hK : cmK g n p = some 3) : cmO g n p = (po g n (cmP g n p) 11 3 0).1.isSome ∧ cmA g n p = (po g n (cmP g n p) 11 3 0).2 ∧ cmV g n p = (po g n (cmP g n p) 11 3 0).1.getD 11 - 11 := by
  unfold cmO cmA cmV
  rw [hK]
  exact ⟨rfl, rfl, rfl⟩
theorem cm_c {g : Nat → Int32} {n p : Nat} (hK : cmK g n p = some 6) : cmO g n p = true ∧ cmA g n p = cmP g n p := by
  unfold cmO cmA
  rw [hK]
  exact ⟨rfl, rfl⟩
theorem scB_ty {g : Nat → Int32} {n p : Nat} : decide (tyA g n p = nI 59) = scB g n p := by
  unfold scB
  exact decide_eq_decide.mpr (tyA_eq (by omega))
set_option maxRecDepth 100000 in
set_option maxHeartbeats 4000000 in
theorem n_addOrAsk {G : mG} {M : mM} {m sa ha c xa tl ra la qa al ka rm pa za wa ua ap nu be en : Nat} {fs fe cm : Int32} (hO : M m = some (300, .inl (8, nL sa ha c xa tl ra la qa al ka rm pa fs fe za wa ua ap cm nu be en))) {xt g : Nat → Int32} (hX : M xa = some (303, .inr (0, 80, .inl xt))) (hXg : ∀ k, k < tl → xt k = g k) (htl : tl ≤ 80) (hpl : ap ≤ tl) (h97 : tyA g tl ap = nI 97) : CC G iX7_readsAddOrAsk 0 0 [.ref m] M (fun r M1 => r = some (.int (mB (cmO g tl ap))) ∧ (∃ cm1 nu1 be1 en1, M1 m = some (300, .inl (8, nL sa ha c xa tl ra la qa al ka rm pa fs fe za wa ua (cmA g tl ap) cm1 nu1 be1 en1)) ∧ (cmO g tl ap = true → cmD g tl ap cm1 nu1 be1 en1)) ∧ mZ [300] M M1) := by
  refine CC.of rfl (Nat.le_of_ble_eq_true rfl) rfl (fun X C Tr => ?_)
  show V X 0 0 0 [some (.ref m)] [] M
  have hF : mZ [300] M M := mZ.rf
  refine s_aload_n C 1 dX7_readsAddOrAsk_0 rfl rfl ?_
  refine s_dup C 2 dX7_readsAddOrAsk_1 rfl rfl ?_
  refine s_getf C 5 dX7_readsAddOrAsk_2 rfl f_X7_123 hO rfl ?_
  refine s_iconst C 6 (nI 1) dX7_readsAddOrAsk_5 rfl (by decide) ?_
  refine s_iaddN C 7 dX7_readsAddOrAsk_6 rfl ?_
  refine s_putU C 10 dX7_readsAddOrAsk_7 rfl p_X7_123 hO (by first | decide | omega) rfl rfl rfl (fs' := [.ref sa, .ref ha, .int (nI c), .ref xa, .int (nI tl), .ref ra, .ref la, .ref qa, .int (nI al), .ref ka, .int (nI rm), .ref pa, .int fs, .int fe, .ref za, .ref wa, .ref ua, .int (nI (ap + 1)), .int cm, .int (nI nu), .int (nI be), .int (nI en)]) rfl (fun M1 U2 => ?_)
  have hX := U2.o hO hX (by first | decide | omega)
  have hF := hF.put U2 hO (by first | decide | (simp; done) | (simp; omega) | (simp [*]; done))
  have hO := U2.s
  refine s_aload_n C 11 dX7_readsAddOrAsk_10 rfl rfl ?_
  refine s_aload_n C 12 dX7_readsAddOrAsk_11 rfl rfl ?_
  refine s_aload_n C 13 dX7_readsAddOrAsk_12 rfl rfl ?_
  refine s_getf C 16 dX7_readsAddOrAsk_13 rfl f_X7_123 hO rfl ?_
  refine s_invV C 19 0 0 [.ref m] (mRv_of hO rfl) dX7_readsAddOrAsk_16 rfl m_X7_126 (n_typedAt hO hX hXg htl (p := (ap + 1)) (by omega)) rfl rfl rfl ⟨by decide, by decide⟩ (Nat.le_of_ble_eq_true rfl) (by omega) (by omega) ?_
  rintro _ M3 ⟨rfl, rfl⟩
  dsimp only [Option.toList, List.cons_append, List.nil_append]
  refine s_bipush C 21 (nI 115) dX7_readsAddOrAsk_19 rfl (by decide) ?_
  refine s_icmp_ne C 29 24 dX7_readsAddOrAsk_21 (by decide) rfl (fun z21 => ?_) (fun z21 => ?_)
  · skip
    refine s_bipush C 31 (nI 97) dX7_readsAddOrAsk_29 rfl (by decide) ?_
    refine s_putU C 34 dX7_readsAddOrAsk_31 rfl p_X7_164 hO (by first | decide | omega) rfl rfl rfl (fs' := [.ref sa, .ref ha, .int (nI c), .ref xa, .int (nI tl), .ref ra, .ref la, .ref qa, .int (nI al), .ref ka, .int (nI rm), .ref pa, .int fs, .int fe, .ref za, .ref wa, .ref ua, .int (nI (ap + 1)), .int (nI 97), .int (nI nu), .int (nI be), .int (nI en)]) rfl (fun M4 U5 => ?_)
    have hX := U5.o hO hX (by first | decide | omega)
    have hF := hF.put U5 hO (by first | decide | (simp; done) | (simp; omega) | (simp [*]; done))
    have hO := U5.s
    refine s_aload_n C 35 dX7_readsAddOrAsk_34 rfl rfl ?_
    refine s_aload_n C 36 dX7_readsAddOrAsk_35 rfl rfl ?_
    refine s_getf C 39 dX7_readsAddOrAsk_36 rfl f_X7_164 hO rfl ?_
    refine s_bipush C 41 (nI 115) dX7_readsAddOrAsk_39 rfl (by decide) ?_
    refine s_icmp_neN C 50 44 dX7_readsAddOrAsk_41 (by decide) rfl (by omega) (by omega) (fun z41 => ?_) (fun z41 => ?_)
    · skip
      refine s_ldc2 C 53 (2122852) dX7_readsAddOrAsk_50 rfl l_X7_169 ?_
      have hpo := po_aa (g := g) (n := tl) (p := ap) (i := 0) (o := 4) (by omega) h97 z21
      refine s_invV C 56 0 0 [] (mRv_of hO rfl) dX7_readsAddOrAsk_53 rfl m_X7_154 (n_readsWord (p := ap) (s0 := 1) (i := 0) (L := (2122852)) hO hX hXg htl (by unfold wdK; decide +kernel) (by omega) (by decide) (by omega)) rfl rfl rfl ⟨by decide, by decide⟩ (Nat.le_of_ble_eq_true rfl) (by omega) (by omega) ?_
      rintro _ M6 ⟨rfl, hO7, hFw⟩
      dsimp only [Option.toList, List.cons_append, List.nil_append]
      have hX := hFw.at hX (by decide)
      have hO := hO7
      have hF := hF.tr hFw
      rw [← hpo.2] at hO ⊢
      refine s_if_eqB C 70 59 dX7_readsAddOrAsk_56 (by decide) rfl (fun z56 => ?_) (fun z56 => ?_)
      · skip
        have hcp := cm_part hpo.1 (of_decide_eq_false z56)
        refine s_iconst C 71 (nI 0) dX7_readsAddOrAsk_70 rfl (by decide) ?_
        exact s_zret C dX7_readsAddOrAsk_71 Tr rfl (by decide) ⟨rF hcp.1, ⟨_, _, _, _, by rw [hcp.2]; exact hO, fun w => by rw [hcp.1] at w; cases w⟩, hF⟩
      · skip
        obtain ⟨hK, hPw⟩ := cm_whole hpo.1 (of_decide_eq_true z56)
        rw [← hPw] at hO
        have hPl := cmP_le (g := g) (n := tl) (p := ap) hpl
        have hcO := cm_t (by omega) hK
        refine s_aload_n C 60 dX7_readsAddOrAsk_59 rfl rfl ?_
        refine s_invV C 63 0 0 [] (mRv_of hO rfl) dX7_readsAddOrAsk_60 rfl m_X7_171 (n_readsTitle hO hX hXg htl (by omega)) rfl rfl rfl ⟨by decide, by decide⟩ (Nat.le_of_ble_eq_true rfl) (by omega) (by omega) ?_
        rintro _ M7 ⟨rfl, hO6, hFt⟩
        dsimp only [Option.toList, List.cons_append, List.nil_append]
        have hX := hFt.at hX (by decide)
        have hO := hO6
        have hF := hF.tr hFt
        refine s_if_eqB C 70 66 dX7_readsAddOrAsk_63 (by decide) rfl (fun z63 => ?_) (fun z63 => ?_)
        · skip
          refine s_iconst C 71 (nI 0) dX7_readsAddOrAsk_70 rfl (by decide) ?_
          exact s_zret C dX7_readsAddOrAsk_71 Tr rfl (by decide) ⟨rF (by rw [hcO.1]; exact z63), ⟨_, _, _, _, by rw [hcO.2]; exact hO, fun w => by rw [hcO.1, z63] at w; cases w⟩, hF⟩
        · skip
          refine s_iconst C 67 (nI 1) dX7_readsAddOrAsk_66 rfl (by decide) ?_
          refine s_goto C 71 dX7_readsAddOrAsk_67 (by decide) ?_
          exact s_zret C dX7_readsAddOrAsk_71 Tr rfl (by decide) ⟨rT (by rw [hcO.1]; exact z63), ⟨_, _, _, _, by rw [hcO.2]; exact hO, fun _ => ⟨0, hK, rfl, fun q => by omega, fun _ => ⟨rfl, hcO.2.symm⟩⟩⟩, hF⟩
    · skip
      omega
  · skip
    refine s_bipush C 26 (nI 115) dX7_readsAddOrAsk_24 rfl (by decide) ?_
    refine s_goto C 31 dX7_readsAddOrAsk_26 (by decide) ?_
    refine s_putU C 34 dX7_readsAddOrAsk_31 rfl p_X7_164 hO (by first | decide | omega) rfl rfl rfl (fs' := [.ref sa, .ref ha, .int (nI c), .ref xa, .int (nI tl), .ref ra, .ref la, .ref qa, .int (nI al), .ref ka, .int (nI rm), .ref pa, .int fs, .int fe, .ref za, .ref wa, .ref ua, .int (nI (ap + 1)), .int (nI 115), .int (nI nu), .int (nI be), .int (nI en)]) rfl (fun M8 U9 => ?_)
    have hX := U9.o hO hX (by first | decide | omega)
    have hF := hF.put U9 hO (by first | decide | (simp; done) | (simp; omega) | (simp [*]; done))
    have hO := U9.s
    refine s_aload_n C 35 dX7_readsAddOrAsk_34 rfl rfl ?_
    refine s_aload_n C 36 dX7_readsAddOrAsk_35 rfl rfl ?_
    refine s_getf C 39 dX7_readsAddOrAsk_36 rfl f_X7_164 hO rfl ?_
    refine s_bipush C 41 (nI 115) dX7_readsAddOrAsk_39 rfl (by decide) ?_
    refine s_icmp_neN C 50 44 dX7_readsAddOrAsk_41 (by decide) rfl (by omega) (by omega) (fun z41 => ?_) (fun z41 => ?_)
    · skip
      omega
    · skip
      refine s_ldc2 C 47 (2124659) dX7_readsAddOrAsk_44 rfl l_X7_167 ?_
      refine s_goto C 53 dX7_readsAddOrAsk_47 (by decide) ?_
      have hpo := po_aa (g := g) (n := tl) (p := ap) (i := 4) (o := 0) (by omega) h97 (fun w => nI_ne (by decide) (by decide) (by decide) (z21.symm.trans w))
      refine s_invV C 56 0 0 [] (mRv_of hO rfl) dX7_readsAddOrAsk_53 rfl m_X7_154 (n_readsWord (p := ap) (s0 := 1) (i := 4) (L := (2124659)) hO hX hXg htl (by unfold wdK; decide +kernel) (by omega) (by decide) (by omega)) rfl rfl rfl ⟨by decide, by decide⟩ (Nat.le_of_ble_eq_true rfl) (by omega) (by omega) ?_
      rintro _ M10 ⟨rfl, hO7, hFw⟩
      dsimp only [Option.toList, List.cons_append, List.nil_append]
      have hX := hFw.at hX (by decide)
      have hO := hO7
      have hF := hF.tr hFw
      rw [← hpo.2] at hO ⊢
      refine s_if_eqB C 70 59 dX7_readsAddOrAsk_56 (by decide) rfl (fun z56 => ?_) (fun z56 => ?_)
      · skip
        have hcp := cm_part hpo.1 (of_decide_eq_false z56)
        refine s_iconst C 71 (nI 0) dX7_readsAddOrAsk_70 rfl (by decide) ?_
        exact s_zret C dX7_readsAddOrAsk_71 Tr rfl (by decide) ⟨rF hcp.1, ⟨_, _, _, _, by rw [hcp.2]; exact hO, fun w => by rw [hcp.1] at w; cases w⟩, hF⟩
      · skip
        obtain ⟨hK, hPw⟩ := cm_whole hpo.1 (of_decide_eq_true z56)
        rw [← hPw] at hO
        have hPl := cmP_le (g := g) (n := tl) (p := ap) hpl
        have hcO := cm_t (by omega) hK
        refine s_aload_n C 60 dX7_readsAddOrAsk_59 rfl rfl ?_
        refine s_invV C 63 0 0 [] (mRv_of hO rfl) dX7_readsAddOrAsk_60 rfl m_X7_171 (n_readsTitle hO hX hXg htl (by omega)) rfl rfl rfl ⟨by decide, by decide⟩ (Nat.le_of_ble_eq_true rfl) (by omega) (by omega) ?_
        rintro _ M11 ⟨rfl, hO6, hFt⟩
        dsimp only [Option.toList, List.cons_append, List.nil_append]
        have hX := hFt.at hX (by decide)
        have hO := hO6
        have hF := hF.tr hFt
        refine s_if_eqB C 70 66 dX7_readsAddOrAsk_63 (by decide) rfl (fun z63 => ?_) (fun z63 => ?_)
        · skip
          refine s_iconst C 71 (nI 0) dX7_readsAddOrAsk_70 rfl (by decide) ?_
          exact s_zret C dX7_readsAddOrAsk_71 Tr rfl (by decide) ⟨rF (by rw [hcO.1]; exact z63), ⟨_, _, _, _, by rw [hcO.2]; exact hO, fun w => by rw [hcO.1, z63] at w; cases w⟩, hF⟩
        · skip
          refine s_iconst C 67 (nI 1) dX7_readsAddOrAsk_66 rfl (by decide) ?_
          refine s_goto C 71 dX7_readsAddOrAsk_67 (by decide) ?_
          exact s_zret C dX7_readsAddOrAsk_71 Tr rfl (by decide) ⟨rT (by rw [hcO.1]; exact z63), ⟨_, _, _, _, by rw [hcO.2]; exact hO, fun _ => ⟨4, hK, rfl, fun q => by omega, fun _ => ⟨rfl, hcO.2.symm⟩⟩⟩, hF⟩

set_option maxRecDepth 100000 in
set_option maxHeartbeats 4000000 in
theorem n_readsCommand {G : mG} {M : mM} {m sa ha c xa tl ra la qa al ka rm pa za wa ua ap nu be en : Nat} {fs fe cm : Int32} (hO : M m = some (300, .inl (8, nL sa ha c xa tl ra la qa al ka rm pa fs fe za wa ua ap cm nu be en))) {xt g : Nat → Int32} (hX : M xa = some (303, .inr (0, 80, .inl xt))) (hXg : ∀ k, k < tl → xt k = g k) (htl : tl ≤ 80) (hpl : ap ≤ tl) : CC G iX7_readsCommand 0 0 [.ref m] M (fun r M1 => r = some (.int (mB (cmO g tl ap))) ∧ (∃ cm1 nu1 be1 en1, M1 m = some (300, .inl (8, nL sa ha c xa tl ra la qa al ka rm pa fs fe za wa ua (cmA g tl ap) cm1 nu1 be1 en1)) ∧ (cmO g tl ap = true → cmD g tl ap cm1 nu1 be1 en1)) ∧ mZ [300] M M1) := by
  refine CC.of rfl (Nat.le_of_ble_eq_true rfl) rfl (fun X C Tr => ?_)
  show V X 0 0 0 [some (.ref m)] [] M
  have hF : mZ [300] M M := mZ.rf
  refine s_aload_n C 1 dX7_readsCommand_0 rfl rfl ?_
  refine s_aload_n C 2 dX7_readsCommand_1 rfl rfl ?_
  refine s_aload_n C 3 dX7_readsCommand_2 rfl rfl ?_
  refine s_getf C 6 dX7_readsCommand_3 rfl f_X7_123 hO rfl ?_
  refine s_invV C 9 0 0 [.ref m] (mRv_of hO rfl) dX7_readsCommand_6 rfl m_X7_126 (n_typedAt hO hX hXg htl (p := ap) (by omega)) rfl rfl rfl ⟨by decide, by decide⟩ (Nat.le_of_ble_eq_true rfl) (by omega) (by omega) ?_
  rintro _ M1 ⟨rfl, rfl⟩
  dsimp only [Option.toList, List.cons_append, List.nil_append]
  refine s_putU C 12 dX7_readsCommand_9 rfl p_X7_164 hO (by first | decide | omega) rfl rfl rfl (fs' := [.ref sa, .ref ha, .int (nI c), .ref xa, .int (nI tl), .ref ra, .ref la, .ref qa, .int (nI al), .ref ka, .int (nI rm), .ref pa, .int fs, .int fe, .ref za, .ref wa, .ref ua, .int (nI ap), .int (tyA g tl ap), .int (nI nu), .int (nI be), .int (nI en)]) rfl (fun M2 U3 => ?_)
  have hX := U3.o hO hX (by first | decide | omega)
  have hF := hF.put U3 hO (by first | decide | (simp; done) | (simp; omega) | (simp [*]; done))
  have hO := U3.s
  refine s_aload_n C 13 dX7_readsCommand_12 rfl rfl ?_
  refine s_getf C 16 dX7_readsCommand_13 rfl f_X7_164 hO rfl ?_
  by_cases w16_97 : (tyA g tl ap) = nI 97
  · skip
    rw [w16_97]
    refine s_tabI C 96 dX7_readsCommand_16 (off := 80) (by decide) (by decide) rfl (by decide) ?_
    have hcv := w16_97
    refine s_aload_n C 97 dX7_readsCommand_96 rfl rfl ?_
    refine s_invV C 100 0 0 [] (mRv_of hO rfl) dX7_readsCommand_97 rfl m_X7_175 (n_addOrAsk hO hX hXg htl hpl hcv) rfl rfl rfl ⟨by decide, by decide⟩ (Nat.le_of_ble_eq_true rfl) (by omega) (by omega) ?_
    rintro _ M4 ⟨rfl, ⟨cm6, nu6, be6, en6, hO6, hd6⟩, hFt⟩
    dsimp only [Option.toList, List.cons_append, List.nil_append]
    exact s_zret C dX7_readsCommand_100 Tr rfl (mB_z _) ⟨rfl, ⟨_, _, _, _, hO6, hd6⟩, hF.tr hFt⟩
  by_cases w16_98 : (tyA g tl ap) = nI 98
  · skip
    rw [w16_98]
    refine s_tabI C 201 dX7_readsCommand_16 (off := 185) (by decide) (by decide) rfl (by decide) ?_
    have hcv := w16_98
    have hcp := cm_half (po_none (g := g) (n := tl) (p := ap) 7 0 0 (fun j h1 h2 => by have h4 : j = 0 ∨ j = 1 ∨ j = 2 ∨ j = 3 ∨ j = 4 ∨ j = 5 ∨ j = 6 := (by omega); have h5 : mW0 g tl ap j = 0 := mW0_0 (by omega) (by rw [hcv]; rcases h4 with rfl | rfl | rfl | rfl | rfl | rfl | rfl <;> exact nI_ne (by decide) (by decide) (by decide)); have h6 := (wd_c j (by omega)).1; omega))
    refine s_iconst C 202 (nI 0) dX7_readsCommand_201 rfl (by decide) ?_
    exact s_zret C dX7_readsCommand_202 Tr rfl (by decide) ⟨rF hcp.1, ⟨_, _, _, _, by rw [hcp.2]; exact hO, fun w => by rw [hcp.1] at w; cases w⟩, hF⟩
  by_cases w16_99 : (tyA g tl ap) = nI 99
  · skip
    rw [w16_99]
    refine s_tabI C 193 dX7_readsCommand_16 (off := 177) (by decide) (by decide) rfl (by decide) ?_
    have hcv := w16_99
    have hpo := po_first (g := g) (n := tl) (p := ap) (i := 6) (k := 0) (fu := 7) (by omega) (by omega) (by omega) (fun j h1 h2 h3 => by have h4 : j = 0 ∨ j = 1 ∨ j = 2 ∨ j = 3 ∨ j = 4 ∨ j = 5 := (by omega); rcases h4 with rfl | rfl | rfl | rfl | rfl | rfl <;> (rw [hcv]; exact nI_ne (by decide) (by decide) (by decide)))
    refine s_aload_n C 194 dX7_readsCommand_193 rfl rfl ?_
    refine s_ldc2 C 197 (491260308579) dX7_readsCommand_194 rfl l_X7_195 ?_
    refine s_invV C 200 0 0 [] (mRv_of hO rfl) dX7_readsCommand_197 rfl m_X7_154 (n_readsWord (p := ap) (s0 := 0) (i := 6) (L := (491260308579)) hO hX hXg htl (by unfold wdK; decide +kernel) (by omega) (by decide) (by omega)) rfl rfl rfl ⟨by decide, by decide⟩ (Nat.le_of_ble_eq_true rfl) (by omega) (by omega) ?_
    rintro _ M5 ⟨rfl, hO7, hFw⟩
    dsimp only [Option.toList, List.cons_append, List.nil_append]
    have hX := hFw.at hX (by decide)
    have hO := hO7
    have hF := hF.tr hFw
    rw [show mw g tl ap 6 0 (wdL 6 - 0) = mW0 g tl ap 6 from rfl] at hO ⊢
    exact s_zret C dX7_readsCommand_200 Tr rfl (mB_z _) ⟨by by_cases e : mW0 g tl ap 6 = wdL 6; (· rw [decide_eq_true e, (cm_c (cm_whole hpo e).1).1]); rw [decide_eq_false e, (cm_part hpo e).1], ⟨_, _, _, _, by by_cases e : mW0 g tl ap 6 = wdL 6; (· rw [(cm_c (cm_whole hpo e).1).2, (cm_whole hpo e).2]; exact hO); rw [(cm_part hpo e).2]; exact hO, fun w => ⟨6, (by by_cases e : mW0 g tl ap 6 = wdL 6; (· exact (cm_whole hpo e).1); rw [(cm_part hpo e).1] at w; cases w), hcv, fun q => by omega, fun q => by omega⟩⟩, hF⟩
  by_cases w16_100 : (tyA g tl ap) = nI 100
  · skip
    rw [w16_100]
    refine s_tabI C 101 dX7_readsCommand_16 (off := 85) (by decide) (by decide) rfl (by decide) ?_
    have hcv := w16_100
    have hpo := po_first (g := g) (n := tl) (p := ap) (i := 1) (k := 0) (fu := 7) (by omega) (by omega) (by omega) (fun j h1 h2 h3 => by have h4 : j = 0 ∨ j = 2 ∨ j = 3 ∨ j = 4 ∨ j = 5 ∨ j = 6 := (by omega); rcases h4 with rfl | rfl | rfl | rfl | rfl | rfl <;> (rw [hcv]; exact nI_ne (by decide) (by decide) (by decide)))
    refine s_aload_n C 102 dX7_readsCommand_101 rfl rfl ?_
    refine s_ldc2 C 105 (139325305444) dX7_readsCommand_102 rfl l_X7_178 ?_
    refine s_invV C 108 0 0 [] (mRv_of hO rfl) dX7_readsCommand_105 rfl m_X7_154 (n_readsWord (p := ap) (s0 := 0) (i := 1) (L := (139325305444)) hO hX hXg htl (by unfold wdK; decide +kernel) (by omega) (by decide) (by omega)) rfl rfl rfl ⟨by decide, by decide⟩ (Nat.le_of_ble_eq_true rfl) (by omega) (by omega) ?_
    rintro _ M6 ⟨rfl, hO7, hFw⟩
    dsimp only [Option.toList, List.cons_append, List.nil_append]
    have hX := hFw.at hX (by decide)
    have hO := hO7
    have hF := hF.tr hFw
    rw [show mw g tl ap 1 0 (wdL 1 - 0) = mW0 g tl ap 1 from rfl] at hO ⊢
    refine s_if_eqB C 122 111 dX7_readsCommand_108 (by decide) rfl (fun z108 => ?_) (fun z108 => ?_)
    · skip
      have hcp := cm_part hpo (of_decide_eq_false z108)
      refine s_iconst C 123 (nI 0) dX7_readsCommand_122 rfl (by decide) ?_
      exact s_zret C dX7_readsCommand_123 Tr rfl (by decide) ⟨rF hcp.1, ⟨_, _, _, _, by rw [hcp.2]; exact hO, fun w => by rw [hcp.1] at w; cases w⟩, hF⟩
    · skip
      obtain ⟨hK, hPw⟩ := cm_whole hpo (of_decide_eq_true z108)
      rw [← hPw] at hO
      have hPl := cmP_le (g := g) (n := tl) (p := ap) hpl
      have hcO := cm_n (by omega) hK
      refine s_aload_n C 112 dX7_readsCommand_111 rfl rfl ?_
      refine s_invV C 115 0 0 [] (mRv_of hO rfl) dX7_readsCommand_112 rfl m_X7_180 (n_readsNumber hO hX hXg htl (by omega)) rfl rfl rfl ⟨by decide, by decide⟩ (Nat.le_of_ble_eq_true rfl) (by omega) (by omega) ?_
      rintro _ M7 ⟨rfl, hO6, hFt⟩
      dsimp only [Option.toList, List.cons_append, List.nil_append]
      have hX := hFt.at hX (by decide)
      have hO := hO6
      have hF := hF.tr hFt
      refine s_if_eqB C 122 118 dX7_readsCommand_115 (by decide) rfl (fun z115 => ?_) (fun z115 => ?_)
      · skip
        have z7 := z115
        refine s_iconst C 123 (nI 0) dX7_readsCommand_122 rfl (by decide) ?_
        exact s_zret C dX7_readsCommand_123 Tr rfl (by decide) ⟨rF (by rw [hcO.1]; exact z7), ⟨_, _, _, _, by rw [hcO.2.1]; exact hO, fun w => by rw [hcO.1, z7] at w; cases w⟩, hF⟩
      · skip
        have z7 := z115
        refine s_iconst C 119 (nI 1) dX7_readsCommand_118 rfl (by decide) ?_
        refine s_goto C 123 dX7_readsCommand_119 (by decide) ?_
        exact s_zret C dX7_readsCommand_123 Tr rfl (by decide) ⟨rT (by rw [hcO.1]; exact z7), ⟨_, _, _, _, by rw [hcO.2.1]; exact hO, fun _ => ⟨1, hK, hcv, fun _ => hcO.2.2.symm, fun q => by omega⟩⟩, hF⟩
  by_cases w16_101 : (tyA g tl ap) = nI 101
  · skip
    rw [w16_101]
    refine s_tabI C 201 dX7_readsCommand_16 (off := 185) (by decide) (by decide) rfl (by decide) ?_
    have hcv := w16_101
    have hcp := cm_half (po_none (g := g) (n := tl) (p := ap) 7 0 0 (fun j h1 h2 => by have h4 : j = 0 ∨ j = 1 ∨ j = 2 ∨ j = 3 ∨ j = 4 ∨ j = 5 ∨ j = 6 := (by omega); have h5 : mW0 g tl ap j = 0 := mW0_0 (by omega) (by rw [hcv]; rcases h4 with rfl | rfl | rfl | rfl | rfl | rfl | rfl <;> exact nI_ne (by decide) (by decide) (by decide)); have h6 := (wd_c j (by omega)).1; omega))
    refine s_iconst C 202 (nI 0) dX7_readsCommand_201 rfl (by decide) ?_
    exact s_zret C dX7_readsCommand_202 Tr rfl (by decide) ⟨rF hcp.1, ⟨_, _, _, _, by rw [hcp.2]; exact hO, fun w => by rw [hcp.1] at w; cases w⟩, hF⟩
  by_cases w16_102 : (tyA g tl ap) = nI 102
  · skip
    rw [w16_102]
    refine s_tabI C 201 dX7_readsCommand_16 (off := 185) (by decide) (by decide) rfl (by decide) ?_
    have hcv := w16_102
    have hcp := cm_half (po_none (g := g) (n := tl) (p := ap) 7 0 0 (fun j h1 h2 => by have h4 : j = 0 ∨ j = 1 ∨ j = 2 ∨ j = 3 ∨ j = 4 ∨ j = 5 ∨ j = 6 := (by omega); have h5 : mW0 g tl ap j = 0 := mW0_0 (by omega) (by rw [hcv]; rcases h4 with rfl | rfl | rfl | rfl | rfl | rfl | rfl <;> exact nI_ne (by decide) (by decide) (by decide)); have h6 := (wd_c j (by omega)).1; omega))
    refine s_iconst C 202 (nI 0) dX7_readsCommand_201 rfl (by decide) ?_
    exact s_zret C dX7_readsCommand_202 Tr rfl (by decide) ⟨rF hcp.1, ⟨_, _, _, _, by rw [hcp.2]; exact hO, fun w => by rw [hcp.1] at w; cases w⟩, hF⟩
  by_cases w16_103 : (tyA g tl ap) = nI 103
  · skip
    rw [w16_103]
    refine s_tabI C 201 dX7_readsCommand_16 (off := 185) (by decide) (by decide) rfl (by decide) ?_
    have hcv := w16_103
    have hcp := cm_half (po_none (g := g) (n := tl) (p := ap) 7 0 0 (fun j h1 h2 => by have h4 : j = 0 ∨ j = 1 ∨ j = 2 ∨ j = 3 ∨ j = 4 ∨ j = 5 ∨ j = 6 := (by omega); have h5 : mW0 g tl ap j = 0 := mW0_0 (by omega) (by rw [hcv]; rcases h4 with rfl | rfl | rfl | rfl | rfl | rfl | rfl <;> exact nI_ne (by decide) (by decide) (by decide)); have h6 := (wd_c j (by omega)).1; omega))
    refine s_iconst C 202 (nI 0) dX7_readsCommand_201 rfl (by decide) ?_
    exact s_zret C dX7_readsCommand_202 Tr rfl (by decide) ⟨rF hcp.1, ⟨_, _, _, _, by rw [hcp.2]; exact hO, fun w => by rw [hcp.1] at w; cases w⟩, hF⟩
  by_cases w16_104 : (tyA g tl ap) = nI 104
  · skip
    rw [w16_104]
    refine s_tabI C 201 dX7_readsCommand_16 (off := 185) (by decide) (by decide) rfl (by decide) ?_
    have hcv := w16_104
    have hcp := cm_half (po_none (g := g) (n := tl) (p := ap) 7 0 0 (fun j h1 h2 => by have h4 : j = 0 ∨ j = 1 ∨ j = 2 ∨ j = 3 ∨ j = 4 ∨ j = 5 ∨ j = 6 := (by omega); have h5 : mW0 g tl ap j = 0 := mW0_0 (by omega) (by rw [hcv]; rcases h4 with rfl | rfl | rfl | rfl | rfl | rfl | rfl <;> exact nI_ne (by decide) (by decide) (by decide)); have h6 := (wd_c j (by omega)).1; omega))
    refine s_iconst C 202 (nI 0) dX7_readsCommand_201 rfl (by decide) ?_
    exact s_zret C dX7_readsCommand_202 Tr rfl (by decide) ⟨rF hcp.1, ⟨_, _, _, _, by rw [hcp.2]; exact hO, fun w => by rw [hcp.1] at w; cases w⟩, hF⟩
  by_cases w16_105 : (tyA g tl ap) = nI 105
  · skip
    rw [w16_105]
    refine s_tabI C 201 dX7_readsCommand_16 (off := 185) (by decide) (by decide) rfl (by decide) ?_
    have hcv := w16_105
    have hcp := cm_half (po_none (g := g) (n := tl) (p := ap) 7 0 0 (fun j h1 h2 => by have h4 : j = 0 ∨ j = 1 ∨ j = 2 ∨ j = 3 ∨ j = 4 ∨ j = 5 ∨ j = 6 := (by omega); have h5 : mW0 g tl ap j = 0 := mW0_0 (by omega) (by rw [hcv]; rcases h4 with rfl | rfl | rfl | rfl | rfl | rfl | rfl <;> exact nI_ne (by decide) (by decide) (by decide)); have h6 := (wd_c j (by omega)).1; omega))
    refine s_iconst C 202 (nI 0) dX7_readsCommand_201 rfl (by decide) ?_
    exact s_zret C dX7_readsCommand_202 Tr rfl (by decide) ⟨rF hcp.1, ⟨_, _, _, _, by rw [hcp.2]; exact hO, fun w => by rw [hcp.1] at w; cases w⟩, hF⟩
  by_cases w16_106 : (tyA g tl ap) = nI 106
  · skip
    rw [w16_106]
    refine s_tabI C 201 dX7_readsCommand_16 (off := 185) (by decide) (by decide) rfl (by decide) ?_
    have hcv := w16_106
    have hcp := cm_half (po_none (g := g) (n := tl) (p := ap) 7 0 0 (fun j h1 h2 => by have h4 : j = 0 ∨ j = 1 ∨ j = 2 ∨ j = 3 ∨ j = 4 ∨ j = 5 ∨ j = 6 := (by omega); have h5 : mW0 g tl ap j = 0 := mW0_0 (by omega) (by rw [hcv]; rcases h4 with rfl | rfl | rfl | rfl | rfl | rfl | rfl <;> exact nI_ne (by decide) (by decide) (by decide)); have h6 := (wd_c j (by omega)).1; omega))
    refine s_iconst C 202 (nI 0) dX7_readsCommand_201 rfl (by decide) ?_
    exact s_zret C dX7_readsCommand_202 Tr rfl (by decide) ⟨rF hcp.1, ⟨_, _, _, _, by rw [hcp.2]; exact hO, fun w => by rw [hcp.1] at w; cases w⟩, hF⟩
  by_cases w16_107 : (tyA g tl ap) = nI 107
  · skip
    rw [w16_107]
    refine s_tabI C 201 dX7_readsCommand_16 (off := 185) (by decide) (by decide) rfl (by decide) ?_
    have hcv := w16_107
    have hcp := cm_half (po_none (g := g) (n := tl) (p := ap) 7 0 0 (fun j h1 h2 => by have h4 : j = 0 ∨ j = 1 ∨ j = 2 ∨ j = 3 ∨ j = 4 ∨ j = 5 ∨ j = 6 := (by omega); have h5 : mW0 g tl ap j = 0 := mW0_0 (by omega) (by rw [hcv]; rcases h4 with rfl | rfl | rfl | rfl | rfl | rfl | rfl <;> exact nI_ne (by decide) (by decide) (by decide)); have h6 := (wd_c j (by omega)).1; omega))
    refine s_iconst C 202 (nI 0) dX7_readsCommand_201 rfl (by decide) ?_
    exact s_zret C dX7_readsCommand_202 Tr rfl (by decide) ⟨rF hcp.1, ⟨_, _, _, _, by rw [hcp.2]; exact hO, fun w => by rw [hcp.1] at w; cases w⟩, hF⟩
  by_cases w16_108 : (tyA g tl ap) = nI 108
  · skip
    rw [w16_108]
    refine s_tabI C 201 dX7_readsCommand_16 (off := 185) (by decide) (by decide) rfl (by decide) ?_
    have hcv := w16_108
    have hcp := cm_half (po_none (g := g) (n := tl) (p := ap) 7 0 0 (fun j h1 h2 => by have h4 : j = 0 ∨ j = 1 ∨ j = 2 ∨ j = 3 ∨ j = 4 ∨ j = 5 ∨ j = 6 := (by omega); have h5 : mW0 g tl ap j = 0 := mW0_0 (by omega) (by rw [hcv]; rcases h4 with rfl | rfl | rfl | rfl | rfl | rfl | rfl <;> exact nI_ne (by decide) (by decide) (by decide)); have h6 := (wd_c j (by omega)).1; omega))
    refine s_iconst C 202 (nI 0) dX7_readsCommand_201 rfl (by decide) ?_
    exact s_zret C dX7_readsCommand_202 Tr rfl (by decide) ⟨rF hcp.1, ⟨_, _, _, _, by rw [hcp.2]; exact hO, fun w => by rw [hcp.1] at w; cases w⟩, hF⟩
  by_cases w16_109 : (tyA g tl ap) = nI 109
  · skip
    rw [w16_109]
    refine s_tabI C 124 dX7_readsCommand_16 (off := 108) (by decide) (by decide) rfl (by decide) ?_
    have hcv := w16_109
    have hpo := po_first (g := g) (n := tl) (p := ap) (i := 2) (k := 0) (fu := 7) (by omega) (by omega) (by omega) (fun j h1 h2 h3 => by have h4 : j = 0 ∨ j = 1 ∨ j = 3 ∨ j = 4 ∨ j = 5 ∨ j = 6 := (by omega); rcases h4 with rfl | rfl | rfl | rfl | rfl | rfl <;> (rw [hcv]; exact nI_ne (by decide) (by decide) (by decide)))
    refine s_aload_n C 125 dX7_readsCommand_124 rfl rfl ?_
    refine s_ldc2 C 128 (139140034413) dX7_readsCommand_125 rfl l_X7_183 ?_
    refine s_invV C 131 0 0 [] (mRv_of hO rfl) dX7_readsCommand_128 rfl m_X7_154 (n_readsWord (p := ap) (s0 := 0) (i := 2) (L := (139140034413)) hO hX hXg htl (by unfold wdK; decide +kernel) (by omega) (by decide) (by omega)) rfl rfl rfl ⟨by decide, by decide⟩ (Nat.le_of_ble_eq_true rfl) (by omega) (by omega) ?_
    rintro _ M8 ⟨rfl, hO7, hFw⟩
    dsimp only [Option.toList, List.cons_append, List.nil_append]
    have hX := hFw.at hX (by decide)
    have hO := hO7
    have hF := hF.tr hFw
    rw [show mw g tl ap 2 0 (wdL 2 - 0) = mW0 g tl ap 2 from rfl] at hO ⊢
    refine s_if_eqB C 145 134 dX7_readsCommand_131 (by decide) rfl (fun z131 => ?_) (fun z131 => ?_)
    · skip
      have hcp := cm_part hpo (of_decide_eq_false z131)
      refine s_iconst C 146 (nI 0) dX7_readsCommand_145 rfl (by decide) ?_
      exact s_zret C dX7_readsCommand_146 Tr rfl (by decide) ⟨rF hcp.1, ⟨_, _, _, _, by rw [hcp.2]; exact hO, fun w => by rw [hcp.1] at w; cases w⟩, hF⟩
    · skip
      obtain ⟨hK, hPw⟩ := cm_whole hpo (of_decide_eq_true z131)
      rw [← hPw] at hO
      have hPl := cmP_le (g := g) (n := tl) (p := ap) hpl
      have hcO := cm_m hK
      refine s_aload_n C 135 dX7_readsCommand_134 rfl rfl ?_
      refine s_invV C 138 0 0 [] (mRv_of hO rfl) dX7_readsCommand_135 rfl m_X7_185 (n_readsMode hO hX hXg htl (by omega)) rfl rfl rfl ⟨by decide, by decide⟩ (Nat.le_of_ble_eq_true rfl) (by omega) (by omega) ?_
      rintro _ M9 ⟨rfl, ⟨nu6, hO6, hnu6⟩, hFt⟩
      dsimp only [Option.toList, List.cons_append, List.nil_append]
      have hX := hFt.at hX (by decide)
      have hO := hO6
      have hF := hF.tr hFt
      refine s_if_eqB C 145 141 dX7_readsCommand_138 (by decide) rfl (fun z138 => ?_) (fun z138 => ?_)
      · skip
        have z7 := z138
        refine s_iconst C 146 (nI 0) dX7_readsCommand_145 rfl (by decide) ?_
        exact s_zret C dX7_readsCommand_146 Tr rfl (by decide) ⟨rF (by rw [hcO.1]; exact z7), ⟨_, _, _, _, by rw [hcO.2.1]; exact hO, fun w => by rw [hcO.1, z7] at w; cases w⟩, hF⟩
      · skip
        have z7 := z138
        refine s_iconst C 142 (nI 1) dX7_readsCommand_141 rfl (by decide) ?_
        refine s_goto C 146 dX7_readsCommand_142 (by decide) ?_
        exact s_zret C dX7_readsCommand_146 Tr rfl (by decide) ⟨rT (by rw [hcO.1]; exact z7), ⟨_, _, _, _, by rw [hcO.2.1]; exact hO, fun _ => ⟨2, hK, hcv, fun _ => (hnu6 z7).trans hcO.2.2.symm, fun q => by omega⟩⟩, hF⟩
  by_cases w16_110 : (tyA g tl ap) = nI 110
  · skip
    rw [w16_110]
    refine s_tabI C 201 dX7_readsCommand_16 (off := 185) (by decide) (by decide) rfl (by decide) ?_
    have hcv := w16_110
    have hcp := cm_half (po_none (g := g) (n := tl) (p := ap) 7 0 0 (fun j h1 h2 => by have h4 : j = 0 ∨ j = 1 ∨ j = 2 ∨ j = 3 ∨ j = 4 ∨ j = 5 ∨ j = 6 := (by omega); have h5 : mW0 g tl ap j = 0 := mW0_0 (by omega) (by rw [hcv]; rcases h4 with rfl | rfl | rfl | rfl | rfl | rfl | rfl <;> exact nI_ne (by decide) (by decide) (by decide)); have h6 := (wd_c j (by omega)).1; omega))
    refine s_iconst C 202 (nI 0) dX7_readsCommand_201 rfl (by decide) ?_
    exact s_zret C dX7_readsCommand_202 Tr rfl (by decide) ⟨rF hcp.1, ⟨_, _, _, _, by rw [hcp.2]; exact hO, fun w => by rw [hcp.1] at w; cases w⟩, hF⟩
  by_cases w16_111 : (tyA g tl ap) = nI 111
  · skip
    rw [w16_111]
    refine s_tabI C 147 dX7_readsCommand_16 (off := 131) (by decide) (by decide) rfl (by decide) ?_
    have hcv := w16_111
    have hpo := po_first (g := g) (n := tl) (p := ap) (i := 3) (k := 0) (fu := 7) (by omega) (by omega) (by omega) (fun j h1 h2 h3 => by have h4 : j = 0 ∨ j = 1 ∨ j = 2 ∨ j = 4 ∨ j = 5 ∨ j = 6 := (by omega); rcases h4 with rfl | rfl | rfl | rfl | rfl | rfl <;> (rw [hcv]; exact nI_ne (by decide) (by decide) (by decide)))
    refine s_aload_n C 148 dX7_readsCommand_147 rfl rfl ?_
    refine s_ldc2 C 151 (35675699442287) dX7_readsCommand_148 rfl l_X7_188 ?_
    refine s_invV C 154 0 0 [] (mRv_of hO rfl) dX7_readsCommand_151 rfl m_X7_154 (n_readsWord (p := ap) (s0 := 0) (i := 3) (L := (35675699442287)) hO hX hXg htl (by unfold wdK; decide +kernel) (by omega) (by decide) (by omega)) rfl rfl rfl ⟨by decide, by decide⟩ (Nat.le_of_ble_eq_true rfl) (by omega) (by omega) ?_
    rintro _ M10 ⟨rfl, hO7, hFw⟩
    dsimp only [Option.toList, List.cons_append, List.nil_append]
    have hX := hFw.at hX (by decide)
    have hO := hO7
    have hF := hF.tr hFw
    rw [show mw g tl ap 3 0 (wdL 3 - 0) = mW0 g tl ap 3 from rfl] at hO ⊢
    refine s_if_eqB C 168 157 dX7_readsCommand_154 (by decide) rfl (fun z154 => ?_) (fun z154 => ?_)
    · skip
      have hcp := cm_part hpo (of_decide_eq_false z154)
      refine s_iconst C 169 (nI 0) dX7_readsCommand_168 rfl (by decide) ?_
      exact s_zret C dX7_readsCommand_169 Tr rfl (by decide) ⟨rF hcp.1, ⟨_, _, _, _, by rw [hcp.2]; exact hO, fun w => by rw [hcp.1] at w; cases w⟩, hF⟩
    · skip
      obtain ⟨hK, hPw⟩ := cm_whole hpo (of_decide_eq_true z154)
      rw [← hPw] at hO
      have hPl := cmP_le (g := g) (n := tl) (p := ap) hpl
      have hcO := cm_o hK
      refine s_aload_n C 158 dX7_readsCommand_157 rfl rfl ?_
      refine s_invV C 161 0 0 [] (mRv_of hO rfl) dX7_readsCommand_158 rfl m_X7_190 (n_readsOrder hO hX hXg htl (by omega)) rfl rfl rfl ⟨by decide, by decide⟩ (Nat.le_of_ble_eq_true rfl) (by omega) (by omega) ?_
      rintro _ M11 ⟨rfl, ⟨nu6, hO6, hnu6⟩, hFt⟩
      dsimp only [Option.toList, List.cons_append, List.nil_append]
      have hX := hFt.at hX (by decide)
      have hO := hO6
      have hF := hF.tr hFt
      refine s_if_eqB C 168 164 dX7_readsCommand_161 (by decide) rfl (fun z161 => ?_) (fun z161 => ?_)
      · skip
        have z7 := z161
        refine s_iconst C 169 (nI 0) dX7_readsCommand_168 rfl (by decide) ?_
        exact s_zret C dX7_readsCommand_169 Tr rfl (by decide) ⟨rF (by rw [hcO.1]; exact z7), ⟨_, _, _, _, by rw [hcO.2.1]; exact hO, fun w => by rw [hcO.1, z7] at w; cases w⟩, hF⟩
      · skip
        have z7 := z161
        refine s_iconst C 165 (nI 1) dX7_readsCommand_164 rfl (by decide) ?_
        refine s_goto C 169 dX7_readsCommand_165 (by decide) ?_
        exact s_zret C dX7_readsCommand_169 Tr rfl (by decide) ⟨rT (by rw [hcO.1]; exact z7), ⟨_, _, _, _, by rw [hcO.2.1]; exact hO, fun _ => ⟨3, hK, hcv, fun _ => (hnu6 z7).trans hcO.2.2.symm, fun q => by omega⟩⟩, hF⟩
  by_cases w16_112 : (tyA g tl ap) = nI 112
  · skip
    rw [w16_112]
    refine s_tabI C 170 dX7_readsCommand_16 (off := 154) (by decide) (by decide) rfl (by decide) ?_
    have hcv := w16_112
    have hpo := po_first (g := g) (n := tl) (p := ap) (i := 5) (k := 0) (fu := 7) (by omega) (by omega) (by omega) (fun j h1 h2 h3 => by have h4 : j = 0 ∨ j = 1 ∨ j = 2 ∨ j = 3 ∨ j = 4 ∨ j = 6 := (by omega); rcases h4 with rfl | rfl | rfl | rfl | rfl | rfl <;> (rw [hcv]; exact nI_ne (by decide) (by decide) (by decide)))
    refine s_aload_n C 171 dX7_readsCommand_170 rfl rfl ?_
    refine s_ldc2 C 174 (139240630640) dX7_readsCommand_171 rfl l_X7_193 ?_
    refine s_invV C 177 0 0 [] (mRv_of hO rfl) dX7_readsCommand_174 rfl m_X7_154 (n_readsWord (p := ap) (s0 := 0) (i := 5) (L := (139240630640)) hO hX hXg htl (by unfold wdK; decide +kernel) (by omega) (by decide) (by omega)) rfl rfl rfl ⟨by decide, by decide⟩ (Nat.le_of_ble_eq_true rfl) (by omega) (by omega) ?_
    rintro _ M12 ⟨rfl, hO7, hFw⟩
    dsimp only [Option.toList, List.cons_append, List.nil_append]
    have hX := hFw.at hX (by decide)
    have hO := hO7
    have hF := hF.tr hFw
    rw [show mw g tl ap 5 0 (wdL 5 - 0) = mW0 g tl ap 5 from rfl] at hO ⊢
    refine s_if_eqB C 191 180 dX7_readsCommand_177 (by decide) rfl (fun z177 => ?_) (fun z177 => ?_)
    · skip
      have hcp := cm_part hpo (of_decide_eq_false z177)
      refine s_iconst C 192 (nI 0) dX7_readsCommand_191 rfl (by decide) ?_
      exact s_zret C dX7_readsCommand_192 Tr rfl (by decide) ⟨rF hcp.1, ⟨_, _, _, _, by rw [hcp.2]; exact hO, fun w => by rw [hcp.1] at w; cases w⟩, hF⟩
    · skip
      obtain ⟨hK, hPw⟩ := cm_whole hpo (of_decide_eq_true z177)
      rw [← hPw] at hO
      have hPl := cmP_le (g := g) (n := tl) (p := ap) hpl
      have hcO := cm_n (by omega) hK
      refine s_aload_n C 181 dX7_readsCommand_180 rfl rfl ?_
      refine s_invV C 184 0 0 [] (mRv_of hO rfl) dX7_readsCommand_181 rfl m_X7_180 (n_readsNumber hO hX hXg htl (by omega)) rfl rfl rfl ⟨by decide, by decide⟩ (Nat.le_of_ble_eq_true rfl) (by omega) (by omega) ?_
      rintro _ M13 ⟨rfl, hO6, hFt⟩
      dsimp only [Option.toList, List.cons_append, List.nil_append]
      have hX := hFt.at hX (by decide)
      have hO := hO6
      have hF := hF.tr hFt
      refine s_if_eqB C 191 187 dX7_readsCommand_184 (by decide) rfl (fun z184 => ?_) (fun z184 => ?_)
      · skip
        have z7 := z184
        refine s_iconst C 192 (nI 0) dX7_readsCommand_191 rfl (by decide) ?_
        exact s_zret C dX7_readsCommand_192 Tr rfl (by decide) ⟨rF (by rw [hcO.1]; exact z7), ⟨_, _, _, _, by rw [hcO.2.1]; exact hO, fun w => by rw [hcO.1, z7] at w; cases w⟩, hF⟩
      · skip
        have z7 := z184
        refine s_iconst C 188 (nI 1) dX7_readsCommand_187 rfl (by decide) ?_
        refine s_goto C 192 dX7_readsCommand_188 (by decide) ?_
        exact s_zret C dX7_readsCommand_192 Tr rfl (by decide) ⟨rT (by rw [hcO.1]; exact z7), ⟨_, _, _, _, by rw [hcO.2.1]; exact hO, fun _ => ⟨5, hK, hcv, fun _ => hcO.2.2.symm, fun q => by omega⟩⟩, hF⟩
  refine s_tabO C 201 dX7_readsCommand_16 (sw_out (x := (tyA g tl ap)) (lo := 97) (hi := 112) (by decide) (fun k h1 h2 => by have h3 : k = 97 ∨ k = 98 ∨ k = 99 ∨ k = 100 ∨ k = 101 ∨ k = 102 ∨ k = 103 ∨ k = 104 ∨ k = 105 ∨ k = 106 ∨ k = 107 ∨ k = 108 ∨ k = 109 ∨ k = 110 ∨ k = 111 ∨ k = 112 := (by omega); rcases h3 with rfl | rfl | rfl | rfl | rfl | rfl | rfl | rfl | rfl | rfl | rfl | rfl | rfl | rfl | rfl | rfl <;> assumption)) (by decide) ?_
  have hcp := cm_half (po_none (g := g) (n := tl) (p := ap) 7 0 0 (fun j h1 h2 => by have h4 : j = 0 ∨ j = 1 ∨ j = 2 ∨ j = 3 ∨ j = 4 ∨ j = 5 ∨ j = 6 := (by omega); have h5 : mW0 g tl ap j = 0 := mW0_0 (by omega) (by rcases h4 with rfl | rfl | rfl | rfl | rfl | rfl | rfl <;> assumption); have h6 := (wd_c j (by omega)).1; omega))
  refine s_iconst C 202 (nI 0) dX7_readsCommand_201 rfl (by decide) ?_
  exact s_zret C dX7_readsCommand_202 Tr rfl (by decide) ⟨rF hcp.1, ⟨_, _, _, _, by rw [hcp.2]; exact hO, fun w => by rw [hcp.1] at w; cases w⟩, hF⟩

set_option maxRecDepth 100000 in
set_option maxHeartbeats 4000000 in
theorem n_findError {G : mG} {M : mM} {m sa ha c xa tl ra la qa al ka rm pa za wa ua ap nu be en : Nat} {fs fe cm : Int32} (hO : M m = some (300, .inl (8, nL sa ha c xa tl ra la qa al ka rm pa fs fe za wa ua ap cm nu be en))) {xt g : Nat → Int32} (hX : M xa = some (303, .inr (0, 80, .inl xt))) (hXg : ∀ k, k < tl → xt k = g k) (htl : tl ≤ 80)  : CC G iX7_findError 0 0 [.ref m] M (fun r M1 => r = some (.int (oI (ffO g tl 81 0))) ∧ (∃ ap1 cm1 nu1 be1 en1, M1 m = some (300, .inl (8, nL sa ha c xa tl ra la qa al ka rm pa fs fe za wa ua ap1 cm1 nu1 be1 en1))) ∧ mZ [300] M M1) := by
  refine CC.of rfl (Nat.le_of_ble_eq_true rfl) rfl (fun X C Tr => ?_)
  show V X 0 0 0 [some (.ref m)] [] M
  have hF : mZ [300] M M := mZ.rf
  refine s_aload_n C 1 dX7_findError_0 rfl rfl ?_
  refine s_iconst C 2 (nI 0) dX7_findError_1 rfl (by decide) ?_
  refine s_putU C 5 dX7_findError_2 rfl p_X7_123 hO (by first | decide | omega) rfl rfl rfl (fs' := [.ref sa, .ref ha, .int (nI c), .ref xa, .int (nI tl), .ref ra, .ref la, .ref qa, .int (nI al), .ref ka, .int (nI rm), .ref pa, .int fs, .int fe, .ref za, .ref wa, .ref ua, .int (nI 0), .int cm, .int (nI nu), .int (nI be), .int (nI en)]) rfl (fun M1 U2 => ?_)
  have hX := U2.o hO hX (by first | decide | omega)
  have hF := hF.put U2 hO (by first | decide | (simp; done) | (simp; omega) | (simp [*]; done))
  have hO := U2.s
  suffices lp5 : ∀ (fu5 : Nat) (i ap9 nu9 be9 en9 : Nat) (cm9 : Int32) (M9 : mM), tl + 1 - ap9 < fu5 → i ≤ ap9 → ap9 ≤ tl → ffO g tl 81 0 = ffO g tl (81 - i) ap9 → M9 m = some (300, .inl (8, [.ref sa, .ref ha, .int (nI c), .ref xa, .int (nI tl), .ref ra, .ref la, .ref qa, .int (nI al), .ref ka, .int (nI rm), .ref pa, .int fs, .int fe, .ref za, .ref wa, .ref ua, .int (nI ap9), .int cm9, .int (nI nu9), .int (nI be9), .int (nI en9)])) → M9 xa = some (303, .inr (0, 80, .inl xt)) → mZ [300] M M9 → V X 0 0 5 [some (.ref m)] [] M9 from lp5 (tl + 2) 0 _ _ _ _ _ _ (by omega) (by omega) (by omega) rfl hO hX hF
  intro fu5
  induction fu5 with
  | zero => intro i ap9 nu9 be9 en9 cm9 M9 hi0 hi hap hff hO hX hF; omega
  | succ fu5 ih5 =>
    intro i ap9 nu9 be9 en9 cm9 M9 hi0 hi hap hff hO hX hF
    have h81 : 81 - i = 81 - (i + 1) + 1 := by omega
    have hcA := cmA_le (g := g) (n := tl) (p := ap9) hap
    have hcP := cmP_le (g := g) (n := tl) (p := ap9) hap
    refine s_aload_n C 6 dX7_findError_5 rfl rfl ?_
    refine s_invV C 9 0 0 [] (mRv_of hO rfl) dX7_findError_6 rfl m_X7_197 (n_readsCommand hO hX hXg htl hap) rfl rfl rfl ⟨by decide, by decide⟩ (Nat.le_of_ble_eq_true rfl) (by omega) (by omega) ?_
    rintro _ M3 ⟨rfl, ⟨cm6, nu6, be6, en6, hO6, hd6⟩, hFt⟩
    dsimp only [Option.toList, List.cons_append, List.nil_append]
    have hX := hFt.at hX (by decide)
    have hO := hO6
    have hF := hF.tr hFt
    refine s_if_neB C 17 12 dX7_findError_9 (by decide) rfl (fun z9 => ?_) (fun z9 => ?_)
    · skip
      refine s_aload_n C 18 dX7_findError_17 rfl rfl ?_
      refine s_getf C 21 dX7_findError_18 rfl f_X7_123 hO rfl ?_
      refine s_aload_n C 22 dX7_findError_21 rfl rfl ?_
      refine s_getf C 25 dX7_findError_22 rfl f_X7_120 hO rfl ?_
      refine s_icmp_neN C 31 28 dX7_findError_25 (by decide) rfl (by omega) (by omega) (fun z25 => ?_) (fun z25 => ?_)
      · skip
        refine s_aload_n C 32 dX7_findError_31 rfl rfl ?_
        refine s_bipush C 34 (nI 59) dX7_findError_32 rfl (by decide) ?_
        refine s_invV C 37 0 0 [] (mRv_of hO rfl) dX7_findError_34 rfl m_X7_131 (n_isNext hO hX hXg htl (v := nI 59) (by omega)) rfl rfl rfl ⟨by decide, by decide⟩ (Nat.le_of_ble_eq_true rfl) (by omega) (by omega) ?_
        rintro _ M4 ⟨rfl, hO5, hFn⟩
        dsimp only [Option.toList, List.cons_append, List.nil_append]
        have hX := hFn.at hX (by decide)
        have hO := hO5
        have hF := hF.tr hFn
        rw [scB_ty]
        refine s_if_neB C 5 40 dX7_findError_37 (by decide) rfl (fun z37 => ?_) (fun z37 => ?_)
        · skip
          have hsc := z37
          have hty : tyA g tl (cmA g tl ap9) = nI 59 := of_decide_eq_true (by rw [scB_ty]; exact z37)
          rw [if_pos hty] at hO
          have hle : cmA g tl ap9 + 1 ≤ tl := ((tyA_eq (by omega)).mp hty).1
          exact ih5 (i + 1) _ _ _ _ _ _ (by omega) (by omega) hle (by rw [hff, h81, ffO, if_pos z9, if_neg (by omega), if_pos hsc]) hO hX hF
        · skip
          have hty : ¬ tyA g tl (cmA g tl ap9) = nI 59 := of_decide_eq_false (by rw [scB_ty]; exact z37)
          rw [if_neg hty] at hO
          have hz : ffO g tl 81 0 = some (cmA g tl ap9) := by rw [hff, h81, ffO, if_pos z9, if_neg (by omega), if_neg (by rw [z37]; decide)]
          refine s_aload_n C 41 dX7_findError_40 rfl rfl ?_
          refine s_getf C 44 dX7_findError_41 rfl f_X7_123 hO rfl ?_
          exact s_iret C dX7_findError_44 Tr rfl ⟨by rw [hz]; rfl, ⟨_, _, _, _, _, hO⟩, hF⟩
      · skip
        have hz : ffO g tl 81 0 = none := by rw [hff, h81, ffO, if_pos z9, if_pos (by omega)]
        refine s_bipush C 30 (-6) dX7_findError_28 rfl (by decide) ?_
        exact s_iret C dX7_findError_30 Tr rfl ⟨by rw [hz]; rfl, ⟨_, _, _, _, _, hO⟩, hF⟩
    · skip
      have hz : ffO g tl 81 0 = some (cmA g tl ap9) := by rw [hff, h81, ffO, if_neg (by rw [z9]; decide)]
      refine s_aload_n C 13 dX7_findError_12 rfl rfl ?_
      refine s_getf C 16 dX7_findError_13 rfl f_X7_123 hO rfl ?_
      exact s_iret C dX7_findError_16 Tr rfl ⟨by rw [hz]; rfl, ⟨_, _, _, _, _, hO⟩, hF⟩
