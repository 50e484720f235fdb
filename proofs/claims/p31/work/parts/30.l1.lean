set_option maxRecDepth 100000 in
set_option maxHeartbeats 4000000 in
theorem l_at {G : mG} {M : mM} {t k : Nat} (ht : t < 2 ^ 60) (hk : k ≤ 12) : CC G iL_at 0 0 [.long (lN t), .int (nI k)] M (fun r M1 => r = some (.int (nI (tA t k))) ∧ M = M1) := by
  refine CC.of rfl (Nat.le_of_ble_eq_true rfl) rfl (fun X C Tr => ?_)
  show V X 0 0 0 [some (.long (lN t)), none, some (.int (nI k))] [] M
  refine s_lload_n C 1 dL_at_0 rfl rfl ?_
  refine s_iconst C 2 (nI 5) dL_at_1 rfl (by decide) ?_
  refine s_iload_n C 3 dL_at_2 rfl rfl ?_
  refine s_imulN C 4 dL_at_3 rfl ?_
  refine s_lshrN C 5 dL_at_4 rfl (by omega) (by omega) ?_
  refine s_ldc2 C 8 (lN 31) dL_at_5 rfl l_L_10 ?_
  refine s_landN C 9 dL_at_8 rfl ?_
  rw [show t / 2 ^ (5 * k) &&& 31 = tA t k from and31]
  refine s_l2iN C 10 dL_at_9 rfl ?_
  exact s_iret C dL_at_10 Tr rfl ⟨rfl, rfl⟩

set_option maxRecDepth 100000 in
set_option maxHeartbeats 4000000 in
theorem l_size {G : mG} {M : mM} {t : Nat} (ht : t < 2 ^ 60) : CC G iL_size 0 0 [.long (lN t)] M (fun r M1 => r = some (.int (nI (tS t))) ∧ M = M1) := by
  refine CC.of rfl (Nat.le_of_ble_eq_true rfl) rfl (fun X C Tr => ?_)
  show V X 0 0 0 [some (.long (lN t)), none, none] [] M
  refine s_iconst C 1 (nI 0) dL_size_0 rfl (by decide) ?_
  refine s_istore_n C 2 dL_size_1 rfl rfl rfl ?_
  dsimp only [List.set]
  suffices lp2 : ∀ (fu2 : Nat) (n : Nat), 13 - n < fu2 → n ≤ tS t → V X 0 0 2 [some (.long (lN t)), none, some (.int (nI n))] [] M from lp2 14 0 (by omega) (by omega)
  intro fu2
  induction fu2 with
  | zero => intro n hn0 hn; omega
  | succ fu2 ih2 =>
    intro n hn0 hn
    have h12 := tS_le (t := t)
    have hA := tA_lt (t := t) (k := n)
    refine s_iload_n C 3 dL_size_2 rfl rfl ?_
    refine s_bipush C 5 (nI 12) dL_size_3 rfl (by decide) ?_
    refine s_icmp_geN C 22 8 dL_size_5 (by decide) rfl (by omega) (by omega) (fun z5 => ?_) (fun z5 => ?_)
    · skip
      have hz : n = tS t := by omega
      refine s_iload_n C 23 dL_size_22 rfl rfl ?_
      exact s_iret C dL_size_23 Tr rfl ⟨by rw [hz], rfl⟩
    · skip
      refine s_lload_n C 9 dL_size_8 rfl rfl ?_
      refine s_iload_n C 10 dL_size_9 rfl rfl ?_
      refine s_invS C 13 0 0 [] dL_size_10 rfl m_L_12 (l_at (t := t) (k := n) (by omega) (by omega)) rfl rfl rfl ⟨by decide, by decide⟩ (Nat.le_of_ble_eq_true rfl) (by omega) (by omega) ?_
      rintro _ M1 ⟨rfl, rfl⟩
      dsimp only [Option.toList, List.cons_append, List.nil_append]
      refine s_if_eqN C 22 16 dL_size_13 (by decide) rfl (by omega) (fun z13 => ?_) (fun z13 => ?_)
      · skip
        have hz : n = tS t := by by_cases w : n < tS t; (· exact absurd z13 (tS_at w)); omega
        refine s_iload_n C 23 dL_size_22 rfl rfl ?_
        exact s_iret C dL_size_23 Tr rfl ⟨by rw [hz], rfl⟩
      · skip
        have hlt : n < tS t := by by_cases w : n < tS t; (· exact w); exact absurd (by rw [show n = tS t by omega]; exact tS_z ht) z13
        refine s_iinc C 19 (nI (n + 1)) dL_size_16 rfl rfl (by rw [← nI_add]; rfl) rfl ?_
        dsimp only [List.set]
        refine s_goto C 2 dL_size_19 (by decide) ?_
        exact ih2 (n + 1) (by omega) (by omega)

set_option maxRecDepth 100000 in
set_option maxHeartbeats 4000000 in
theorem l_code {G : mG} {M : mM} {c : Nat} (hc : c < 32) : CC G iL_code 0 0 [.int (nI c)] M (fun r M1 => r = some (.int (nI (tC c))) ∧ M = M1) := by
  refine CC.of rfl (Nat.le_of_ble_eq_true rfl) rfl (fun X C Tr => ?_)
  show V X 0 0 0 [some (.int (nI c))] [] M
  refine s_iload_n C 1 dL_code_0 rfl rfl ?_
  refine s_bipush C 3 (nI 27) dL_code_1 rfl (by decide) ?_
  refine s_icmp_neN C 11 6 dL_code_3 (by decide) rfl (by omega) (by omega) (fun z3 => ?_) (fun z3 => ?_)
  · skip
    refine s_iload_n C 12 dL_code_11 rfl rfl ?_
    refine s_bipush C 14 (nI 28) dL_code_12 rfl (by decide) ?_
    refine s_icmp_neN C 22 17 dL_code_14 (by decide) rfl (by omega) (by omega) (fun z14 => ?_) (fun z14 => ?_)
    · skip
      refine s_bipush C 24 (nI 96) dL_code_22 rfl (by decide) ?_
      refine s_iload_n C 25 dL_code_24 rfl rfl ?_
      refine s_iaddN C 26 dL_code_25 rfl ?_
      exact s_iret C dL_code_26 Tr rfl ⟨by unfold tC; rw [if_neg z3, if_neg z14], rfl⟩
    · skip
      refine s_bipush C 19 (nI 48) dL_code_17 rfl (by decide) ?_
      refine s_goto C 26 dL_code_19 (by decide) ?_
      exact s_iret C dL_code_26 Tr rfl ⟨by unfold tC; rw [if_neg z3, if_pos z14], rfl⟩
  · skip
    refine s_bipush C 8 (nI 32) dL_code_6 rfl (by decide) ?_
    refine s_goto C 26 dL_code_8 (by decide) ?_
    exact s_iret C dL_code_26 Tr rfl ⟨by unfold tC; rw [if_pos z3], rfl⟩

set_option maxRecDepth 100000 in
set_option maxHeartbeats 4000000 in
theorem l_low {G : mG} {M : mM} {v : Int32} {m : Nat} (h0 : 0 < m) (hm : m < 2 ^ 31) : CC G iL_low 0 0 [.int v, .int (nI m)] M (fun r M1 => r = some (.int (nI (lw v m))) ∧ M = M1) := by
  refine CC.of rfl (Nat.le_of_ble_eq_true rfl) rfl (fun X C Tr => ?_)
  show V X 0 0 0 [some (.int v), some (.int (nI m))] [] M
  refine s_iload_n C 1 dL_low_0 rfl rfl ?_
  refine s_ldci C 3 (2147483647) dL_low_1 rfl cc_L_9 ?_
  refine s_iand C 4 dL_low_3 rfl ?_
  refine s_iload_n C 5 dL_low_4 rfl rfl ?_
  rw [lw_and v]
  refine s_iremN C 6 dL_low_5 rfl (by omega) (by omega) (by omega) ?_
  exact s_iret C dL_low_6 Tr rfl ⟨rfl, rfl⟩

set_option maxRecDepth 100000 in
set_option maxHeartbeats 4000000 in
theorem l_cell {G : mG} {M : mM} {k : Nat} (hk : k < 1000) : CC G iL_cell 0 0 [.ref (G.2.2.2.2.1 0), .int (nI k)] M (fun r M1 => (∃ v, r = some (.int v)) ∧ M = M1) := by
  refine CC.of rfl (Nat.le_of_ble_eq_true rfl) rfl (fun X C Tr => ?_)
  show V X 0 0 0 [some (.ref (G.2.2.2.2.1 0)), some (.int (nI k))] [] M
  have h260 := s_script C
  refine s_iload_n C 1 dL_cell_0 rfl rfl ?_
  refine s_aload_n C 2 dL_cell_1 rfl rfl ?_
  refine s_slen C 3 dL_cell_2 rfl ?_
  refine s_icmp_geN C 12 6 dL_cell_3 (by decide) rfl (by omega) (by omega) (fun z3 => ?_) (fun z3 => ?_)
  · skip
    refine s_ldci C 14 (1033861973) dL_cell_12 rfl cc_L_7 ?_
    refine s_iload_n C 15 dL_cell_14 rfl rfl ?_
    refine s_iconst C 16 (nI 1) dL_cell_15 rfl (by decide) ?_
    refine s_iaddN C 17 dL_cell_16 rfl ?_
    refine s_imul C 18 dL_cell_17 rfl ?_
    refine s_ldci C 20 (650699943) dL_cell_18 rfl cc_L_8 ?_
    refine s_iadd C 21 dL_cell_20 rfl ?_
    exact s_iret C dL_cell_21 Tr rfl ⟨⟨_, rfl⟩, rfl⟩
  · skip
    refine s_aload_n C 7 dL_cell_6 rfl rfl ?_
    refine s_iload_n C 8 dL_cell_7 rfl rfl ?_
    refine s_sld C 9 dL_cell_8 rfl (by omega) ?_
    refine s_goto C 21 dL_cell_9 (by decide) ?_
    exact s_iret C dL_cell_21 Tr rfl ⟨⟨_, rfl⟩, rfl⟩

set_option maxRecDepth 100000 in
set_option maxHeartbeats 4000000 in
theorem l_from {G : mG} {M : mM} {t mo : Nat} (ht : t < 2 ^ 60) (hm : mo < 4) : CC G iL_from 0 0 [.long (lN t), .int (nI mo)] M (fun r M1 => r = some (.long (lN (tFr t mo))) ∧ M = M1) := by
  refine CC.of rfl (Nat.le_of_ble_eq_true rfl) rfl (fun X C Tr => ?_)
  show V X 0 0 0 [some (.long (lN t)), none, some (.int (nI mo)), none, none, none, none] [] M
  refine s_iload_n C 1 dL_from_0 rfl rfl ?_
  refine s_iconst C 2 (nI 3) dL_from_1 rfl (by decide) ?_
  refine s_icmp_geN C 7 5 dL_from_2 (by decide) rfl (by omega) (by omega) (fun z2 => ?_) (fun z2 => ?_)
  · skip
    refine s_lconst C 8 (lN 0) dL_from_7 rfl rfl ?_
    refine s_lstore_n C 9 dL_from_8 rfl rfl rfl ?_
    dsimp only [List.set]
    refine s_iconst C 10 (nI 0) dL_from_9 rfl (by decide) ?_
    refine s_istore C 12 dL_from_10 rfl rfl rfl ?_
    dsimp only [List.set]
    refine s_iconst C 13 (nI 0) dL_from_12 rfl (by decide) ?_
    refine s_istore C 15 dL_from_13 rfl rfl rfl ?_
    dsimp only [List.set]
    suffices lp15 : ∀ (fu15 : Nat) (k : Nat), 13 - k < fu15 → k ≤ tS t → V X 0 0 15 [some (.long (lN t)), none, some (.int (nI mo)), some (.long (lN ((tJ t k).1))), none, some (.int (nI ((tJ t k).2))), some (.int (nI k))] [] M from lp15 14 0 (by omega) (by omega)
    intro fu15
    induction fu15 with
    | zero => intro k hk0 hk; omega
    | succ fu15 ih15 =>
      intro k hk0 hk
      have h12 := tS_le (t := t)
      have hA := tA_lt (t := t) (k := k)
      have hA2 := tA_lt (t := t) (k := k - 1)
      have hJ := tJ_le (t := t) k
      refine s_iload C 17 dL_from_15 rfl rfl ?_
      refine s_lload_n C 18 dL_from_17 rfl rfl ?_
      refine s_invS C 21 0 0 [.int (nI k)] dL_from_18 rfl m_L_18 (l_size (t := t) (by omega)) rfl rfl rfl ⟨by decide, by decide⟩ (Nat.le_of_ble_eq_true rfl) (by omega) (by omega) ?_
      rintro _ M1 ⟨rfl, rfl⟩
      dsimp only [Option.toList, List.cons_append, List.nil_append]
      refine s_icmp_geN C 80 24 dL_from_21 (by decide) rfl (by omega) (by omega) (fun z21 => ?_) (fun z21 => ?_)
      · skip
        have hk9 : k = tS t := by omega
        refine s_lload_n C 81 dL_from_80 rfl rfl ?_
        exact s_lret C dL_from_81 Tr rfl ⟨by unfold tFr; rw [if_neg (by omega), hk9], rfl⟩
      · skip
        refine s_lload_n C 25 dL_from_24 rfl rfl ?_
        refine s_iload C 27 dL_from_25 rfl rfl ?_
        refine s_invS C 30 0 0 [] dL_from_27 rfl m_L_12 (l_at (t := t) (k := k) (by omega) (by omega)) rfl rfl rfl ⟨by decide, by decide⟩ (Nat.le_of_ble_eq_true rfl) (by omega) (by omega) ?_
        rintro _ M2 ⟨rfl, rfl⟩
        dsimp only [Option.toList, List.cons_append, List.nil_append]
        refine s_bipush C 32 (nI 27) dL_from_30 rfl (by decide) ?_
        refine s_icmp_eqN C 74 35 dL_from_32 (by decide) rfl (by omega) (by omega) (fun z32 => ?_) (fun z32 => ?_)
        · skip
          have hw : tW t k = false := by unfold tW; exact decide_eq_false (by omega)
          refine s_iinc C 77 (nI (k + 1)) dL_from_74 rfl rfl (by rw [← nI_add]; rfl) rfl ?_
          dsimp only [List.set]
          refine s_goto C 15 dL_from_77 (by decide) ?_
          have e9 : tJ t (k + 1) = tJ t k := by rw [tJ, if_neg (by rw [hw]; decide)]
          have i9 := ih15 (k + 1) (by omega) (by omega)
          rw [e9] at i9
          exact i9
        · skip
          refine s_iload C 37 dL_from_35 rfl rfl ?_
          refine s_if_leN C 56 40 dL_from_37 (by decide) rfl (by omega) (fun z37 => ?_) (fun z37 => ?_)
          · skip
            have hw : tW t k = true := by unfold tW; exact decide_eq_true (by omega)
            refine s_lload_n C 57 dL_from_56 rfl rfl ?_
            refine s_lload_n C 58 dL_from_57 rfl rfl ?_
            refine s_iload C 60 dL_from_58 rfl rfl ?_
            refine s_invS C 63 0 0 [.long (lN ((tJ t k).1))] dL_from_60 rfl m_L_12 (l_at (t := t) (k := k) (by omega) (by omega)) rfl rfl rfl ⟨by decide, by decide⟩ (Nat.le_of_ble_eq_true rfl) (by omega) (by omega) ?_
            rintro _ M3 ⟨rfl, rfl⟩
            dsimp only [Option.toList, List.cons_append, List.nil_append]
            refine s_i2lN C 64 dL_from_63 rfl (by omega) ?_
            refine s_iconst C 65 (nI 5) dL_from_64 rfl (by decide) ?_
            refine s_iload C 67 dL_from_65 rfl rfl ?_
            refine s_imulN C 68 dL_from_67 rfl ?_
            refine s_lshlN C 69 dL_from_68 rfl (by omega) ?_
            refine s_lorN C 70 dL_from_69 rfl ?_
            refine s_lstore_n C 71 dL_from_70 rfl rfl rfl ?_
            dsimp only [List.set]
            refine s_iinc C 74 (nI ((tJ t k).2 + 1)) dL_from_71 rfl rfl (by rw [← nI_add]; rfl) rfl ?_
            dsimp only [List.set]
            refine s_iinc C 77 (nI (k + 1)) dL_from_74 rfl rfl (by rw [← nI_add]; rfl) rfl ?_
            dsimp only [List.set]
            refine s_goto C 15 dL_from_77 (by decide) ?_
            have e9 : tJ t (k + 1) = ((tJ t k).1 ||| tA t k * 2 ^ (5 * (tJ t k).2), (tJ t k).2 + 1) := by rw [tJ, if_pos hw]
            have i9 := ih15 (k + 1) (by omega) (by omega)
            rw [e9] at i9
            exact i9
          · skip
            refine s_lload_n C 41 dL_from_40 rfl rfl ?_
            refine s_iload C 43 dL_from_41 rfl rfl ?_
            refine s_iconst C 44 (nI 1) dL_from_43 rfl (by decide) ?_
            refine s_isubN C 45 dL_from_44 rfl (by omega) ?_
            refine s_invS C 48 0 0 [] dL_from_45 rfl m_L_12 (l_at (t := t) (k := k - 1) (by omega) (by omega)) rfl rfl rfl ⟨by decide, by decide⟩ (Nat.le_of_ble_eq_true rfl) (by omega) (by omega) ?_
            rintro _ M4 ⟨rfl, rfl⟩
            dsimp only [Option.toList, List.cons_append, List.nil_append]
            refine s_bipush C 50 (nI 27) dL_from_48 rfl (by decide) ?_
            refine s_icmp_eqN C 56 53 dL_from_50 (by decide) rfl (by omega) (by omega) (fun z50 => ?_) (fun z50 => ?_)
            · skip
              have hw : tW t k = true := by unfold tW; exact decide_eq_true (by omega)
              refine s_lload_n C 57 dL_from_56 rfl rfl ?_
              refine s_lload_n C 58 dL_from_57 rfl rfl ?_
              refine s_iload C 60 dL_from_58 rfl rfl ?_
              refine s_invS C 63 0 0 [.long (lN ((tJ t k).1))] dL_from_60 rfl m_L_12 (l_at (t := t) (k := k) (by omega) (by omega)) rfl rfl rfl ⟨by decide, by decide⟩ (Nat.le_of_ble_eq_true rfl) (by omega) (by omega) ?_
              rintro _ M5 ⟨rfl, rfl⟩
              dsimp only [Option.toList, List.cons_append, List.nil_append]
              refine s_i2lN C 64 dL_from_63 rfl (by omega) ?_
              refine s_iconst C 65 (nI 5) dL_from_64 rfl (by decide) ?_
              refine s_iload C 67 dL_from_65 rfl rfl ?_
              refine s_imulN C 68 dL_from_67 rfl ?_
              refine s_lshlN C 69 dL_from_68 rfl (by omega) ?_
              refine s_lorN C 70 dL_from_69 rfl ?_
              refine s_lstore_n C 71 dL_from_70 rfl rfl rfl ?_
              dsimp only [List.set]
              refine s_iinc C 74 (nI ((tJ t k).2 + 1)) dL_from_71 rfl rfl (by rw [← nI_add]; rfl) rfl ?_
              dsimp only [List.set]
              refine s_iinc C 77 (nI (k + 1)) dL_from_74 rfl rfl (by rw [← nI_add]; rfl) rfl ?_
              dsimp only [List.set]
              refine s_goto C 15 dL_from_77 (by decide) ?_
              have e9 : tJ t (k + 1) = ((tJ t k).1 ||| tA t k * 2 ^ (5 * (tJ t k).2), (tJ t k).2 + 1) := by rw [tJ, if_pos hw]
              have i9 := ih15 (k + 1) (by omega) (by omega)
              rw [e9] at i9
              exact i9
            · skip
              have hw : tW t k = false := by unfold tW; exact decide_eq_false (by omega)
              refine s_goto C 74 dL_from_53 (by decide) ?_
              refine s_iinc C 77 (nI (k + 1)) dL_from_74 rfl rfl (by rw [← nI_add]; rfl) rfl ?_
              dsimp only [List.set]
              refine s_goto C 15 dL_from_77 (by decide) ?_
              have e9 : tJ t (k + 1) = tJ t k := by rw [tJ, if_neg (by rw [hw]; decide)]
              have i9 := ih15 (k + 1) (by omega) (by omega)
              rw [e9] at i9
              exact i9
  · skip
    refine s_lload_n C 6 dL_from_5 rfl rfl ?_
    exact s_lret C dL_from_6 Tr rfl ⟨by unfold tFr; rw [if_pos z2], rfl⟩

set_option maxRecDepth 100000 in
set_option maxHeartbeats 4000000 in
theorem l_piece {G : mG} {M : mM} {f s l mo : Nat} (hf : f < 2 ^ 60) (hl : 0 < l) (hl12 : l ≤ 12) (hs : s ≤ 12) (hm : mo < 4) : CC G iL_piece 0 0 [.long (lN f), .int (nI s), .int (nI l), .int (nI mo)] M (fun r M1 => r = some (.long (lN (tP f s l mo))) ∧ M = M1) := by
  refine CC.of rfl (Nat.le_of_ble_eq_true rfl) rfl (fun X C Tr => ?_)
  show V X 0 0 0 [some (.long (lN f)), none, some (.int (nI s)), some (.int (nI l)), some (.int (nI mo))] [] M
  have h12 := tS_le (t := f)
  have hp := Nat.two_pow_pos (5 * l)
  have hA1 := tA_lt (t := f) (k := s)
  have hA2 := tA_lt (t := f) (k := s + l - 1)
  have hA3 := tA_lt (t := f) (k := s - 1)
  refine s_iload_n C 1 dL_piece_0 rfl rfl ?_
  refine s_iload_n C 2 dL_piece_1 rfl rfl ?_
  refine s_iaddN C 3 dL_piece_2 rfl ?_
  refine s_lload_n C 4 dL_piece_3 rfl rfl ?_
  refine s_invS C 7 0 0 [.int (nI (s + l))] dL_piece_4 rfl m_L_18 (l_size (t := f) (by omega)) rfl rfl rfl ⟨by decide, by decide⟩ (Nat.le_of_ble_eq_true rfl) (by omega) (by omega) ?_
  rintro _ M1 ⟨rfl, rfl⟩
  dsimp only [Option.toList, List.cons_append, List.nil_append]
  refine s_icmp_gtN C 66 10 dL_piece_7 (by decide) rfl (by omega) (by omega) (fun z7 => ?_) (fun z7 => ?_)
  · skip
    refine s_lconst C 67 (lN 0) dL_piece_66 rfl rfl ?_
    exact s_lret C dL_piece_67 Tr rfl ⟨by rw [tP_n (by unfold tPc; omega)], rfl⟩
  · skip
    refine s_lload_n C 11 dL_piece_10 rfl rfl ?_
    refine s_iload_n C 12 dL_piece_11 rfl rfl ?_
    refine s_invS C 15 0 0 [] dL_piece_12 rfl m_L_12 (l_at (t := f) (k := s) (by omega) (by omega)) rfl rfl rfl ⟨by decide, by decide⟩ (Nat.le_of_ble_eq_true rfl) (by omega) (by omega) ?_
    rintro _ M2 ⟨rfl, rfl⟩
    dsimp only [Option.toList, List.cons_append, List.nil_append]
    refine s_bipush C 17 (nI 27) dL_piece_15 rfl (by decide) ?_
    refine s_icmp_eqN C 66 20 dL_piece_17 (by decide) rfl (by omega) (by omega) (fun z17 => ?_) (fun z17 => ?_)
    · skip
      refine s_lconst C 67 (lN 0) dL_piece_66 rfl rfl ?_
      exact s_lret C dL_piece_67 Tr rfl ⟨by rw [tP_n (by unfold tPc; omega)], rfl⟩
    · skip
      refine s_lload_n C 21 dL_piece_20 rfl rfl ?_
      refine s_iload_n C 22 dL_piece_21 rfl rfl ?_
      refine s_iload_n C 23 dL_piece_22 rfl rfl ?_
      refine s_iaddN C 24 dL_piece_23 rfl ?_
      refine s_iconst C 25 (nI 1) dL_piece_24 rfl (by decide) ?_
      refine s_isubN C 26 dL_piece_25 rfl (by omega) ?_
      refine s_invS C 29 0 0 [] dL_piece_26 rfl m_L_12 (l_at (t := f) (k := (s + l) - 1) (by omega) (by omega)) rfl rfl rfl ⟨by decide, by decide⟩ (Nat.le_of_ble_eq_true rfl) (by omega) (by omega) ?_
      rintro _ M3 ⟨rfl, rfl⟩
      dsimp only [Option.toList, List.cons_append, List.nil_append]
      refine s_bipush C 31 (nI 27) dL_piece_29 rfl (by decide) ?_
      refine s_icmp_eqN C 66 34 dL_piece_31 (by decide) rfl (by omega) (by omega) (fun z31 => ?_) (fun z31 => ?_)
      · skip
        refine s_lconst C 67 (lN 0) dL_piece_66 rfl rfl ?_
        exact s_lret C dL_piece_67 Tr rfl ⟨by rw [tP_n (by unfold tPc; omega)], rfl⟩
      · skip
        refine s_iload C 36 dL_piece_34 rfl rfl ?_
        refine s_iconst C 37 (nI 1) dL_piece_36 rfl (by decide) ?_
        refine s_icmp_neN C 44 40 dL_piece_37 (by decide) rfl (by omega) (by omega) (fun z37 => ?_) (fun z37 => ?_)
        · skip
          refine s_iload C 46 dL_piece_44 rfl rfl ?_
          refine s_iconst C 47 (nI 2) dL_piece_46 rfl (by decide) ?_
          refine s_icmp_neN C 68 50 dL_piece_47 (by decide) rfl (by omega) (by omega) (fun z47 => ?_) (fun z47 => ?_)
          · skip
            refine s_lload_n C 69 dL_piece_68 rfl rfl ?_
            refine s_iconst C 70 (nI 5) dL_piece_69 rfl (by decide) ?_
            refine s_iload_n C 71 dL_piece_70 rfl rfl ?_
            refine s_imulN C 72 dL_piece_71 rfl ?_
            refine s_lshrN C 73 dL_piece_72 rfl (by omega) (by omega) ?_
            refine s_lconst C 74 (lN 1) dL_piece_73 rfl rfl ?_
            refine s_iconst C 75 (nI 5) dL_piece_74 rfl (by decide) ?_
            refine s_iload_n C 76 dL_piece_75 rfl rfl ?_
            refine s_imulN C 77 dL_piece_76 rfl ?_
            refine s_lshlN C 78 dL_piece_77 rfl (by omega) ?_
            refine s_lconst C 79 (lN 1) dL_piece_78 rfl rfl ?_
            refine s_lsubN C 80 dL_piece_79 rfl (by omega) ?_
            refine s_landN C 81 dL_piece_80 rfl ?_
            exact s_lret C dL_piece_81 Tr rfl ⟨by rw [Nat.one_mul, Nat.and_two_pow_sub_one_eq_mod, tP_y (by unfold tPc; omega)], rfl⟩
          · skip
            refine s_iload_n C 51 dL_piece_50 rfl rfl ?_
            refine s_if_leN C 68 54 dL_piece_51 (by decide) rfl (by omega) (fun z51 => ?_) (fun z51 => ?_)
            · skip
              refine s_lload_n C 69 dL_piece_68 rfl rfl ?_
              refine s_iconst C 70 (nI 5) dL_piece_69 rfl (by decide) ?_
              refine s_iload_n C 71 dL_piece_70 rfl rfl ?_
              refine s_imulN C 72 dL_piece_71 rfl ?_
              refine s_lshrN C 73 dL_piece_72 rfl (by omega) (by omega) ?_
              refine s_lconst C 74 (lN 1) dL_piece_73 rfl rfl ?_
              refine s_iconst C 75 (nI 5) dL_piece_74 rfl (by decide) ?_
              refine s_iload_n C 76 dL_piece_75 rfl rfl ?_
              refine s_imulN C 77 dL_piece_76 rfl ?_
              refine s_lshlN C 78 dL_piece_77 rfl (by omega) ?_
              refine s_lconst C 79 (lN 1) dL_piece_78 rfl rfl ?_
              refine s_lsubN C 80 dL_piece_79 rfl (by omega) ?_
              refine s_landN C 81 dL_piece_80 rfl ?_
              exact s_lret C dL_piece_81 Tr rfl ⟨by rw [Nat.one_mul, Nat.and_two_pow_sub_one_eq_mod, tP_y (by unfold tPc; omega)], rfl⟩
            · skip
              refine s_lload_n C 55 dL_piece_54 rfl rfl ?_
              refine s_iload_n C 56 dL_piece_55 rfl rfl ?_
              refine s_iconst C 57 (nI 1) dL_piece_56 rfl (by decide) ?_
              refine s_isubN C 58 dL_piece_57 rfl (by omega) ?_
              refine s_invS C 61 0 0 [] dL_piece_58 rfl m_L_12 (l_at (t := f) (k := s - 1) (by omega) (by omega)) rfl rfl rfl ⟨by decide, by decide⟩ (Nat.le_of_ble_eq_true rfl) (by omega) (by omega) ?_
              rintro _ M4 ⟨rfl, rfl⟩
              dsimp only [Option.toList, List.cons_append, List.nil_append]
              refine s_bipush C 63 (nI 27) dL_piece_61 rfl (by decide) ?_
              refine s_icmp_eqN C 68 66 dL_piece_63 (by decide) rfl (by omega) (by omega) (fun z63 => ?_) (fun z63 => ?_)
              · skip
                refine s_lload_n C 69 dL_piece_68 rfl rfl ?_
                refine s_iconst C 70 (nI 5) dL_piece_69 rfl (by decide) ?_
                refine s_iload_n C 71 dL_piece_70 rfl rfl ?_
                refine s_imulN C 72 dL_piece_71 rfl ?_
                refine s_lshrN C 73 dL_piece_72 rfl (by omega) (by omega) ?_
                refine s_lconst C 74 (lN 1) dL_piece_73 rfl rfl ?_
                refine s_iconst C 75 (nI 5) dL_piece_74 rfl (by decide) ?_
                refine s_iload_n C 76 dL_piece_75 rfl rfl ?_
                refine s_imulN C 77 dL_piece_76 rfl ?_
                refine s_lshlN C 78 dL_piece_77 rfl (by omega) ?_
                refine s_lconst C 79 (lN 1) dL_piece_78 rfl rfl ?_
                refine s_lsubN C 80 dL_piece_79 rfl (by omega) ?_
                refine s_landN C 81 dL_piece_80 rfl ?_
                exact s_lret C dL_piece_81 Tr rfl ⟨by rw [Nat.one_mul, Nat.and_two_pow_sub_one_eq_mod, tP_y (by unfold tPc; omega)], rfl⟩
              · skip
                refine s_lconst C 67 (lN 0) dL_piece_66 rfl rfl ?_
                exact s_lret C dL_piece_67 Tr rfl ⟨by rw [tP_n (by unfold tPc; omega)], rfl⟩
        · skip
          refine s_iload_n C 41 dL_piece_40 rfl rfl ?_
          refine s_if_gtN C 66 44 dL_piece_41 (by decide) rfl (by omega) (fun z41 => ?_) (fun z41 => ?_)
          · skip
            refine s_lconst C 67 (lN 0) dL_piece_66 rfl rfl ?_
            exact s_lret C dL_piece_67 Tr rfl ⟨by rw [tP_n (by unfold tPc; omega)], rfl⟩
          · skip
            refine s_iload C 46 dL_piece_44 rfl rfl ?_
            refine s_iconst C 47 (nI 2) dL_piece_46 rfl (by decide) ?_
            refine s_icmp_neN C 68 50 dL_piece_47 (by decide) rfl (by omega) (by omega) (fun z47 => ?_) (fun z47 => ?_)
            · skip
              refine s_lload_n C 69 dL_piece_68 rfl rfl ?_
              refine s_iconst C 70 (nI 5) dL_piece_69 rfl (by decide) ?_
              refine s_iload_n C 71 dL_piece_70 rfl rfl ?_
              refine s_imulN C 72 dL_piece_71 rfl ?_
              refine s_lshrN C 73 dL_piece_72 rfl (by omega) (by omega) ?_
              refine s_lconst C 74 (lN 1) dL_piece_73 rfl rfl ?_
              refine s_iconst C 75 (nI 5) dL_piece_74 rfl (by decide) ?_
              refine s_iload_n C 76 dL_piece_75 rfl rfl ?_
              refine s_imulN C 77 dL_piece_76 rfl ?_
              refine s_lshlN C 78 dL_piece_77 rfl (by omega) ?_
              refine s_lconst C 79 (lN 1) dL_piece_78 rfl rfl ?_
              refine s_lsubN C 80 dL_piece_79 rfl (by omega) ?_
              refine s_landN C 81 dL_piece_80 rfl ?_
              exact s_lret C dL_piece_81 Tr rfl ⟨by rw [Nat.one_mul, Nat.and_two_pow_sub_one_eq_mod, tP_y (by unfold tPc; omega)], rfl⟩
            · skip
              refine s_iload_n C 51 dL_piece_50 rfl rfl ?_
              refine s_if_leN C 68 54 dL_piece_51 (by decide) rfl (by omega) (fun z51 => ?_) (fun z51 => ?_)
              · skip
                refine s_lload_n C 69 dL_piece_68 rfl rfl ?_
                refine s_iconst C 70 (nI 5) dL_piece_69 rfl (by decide) ?_
                refine s_iload_n C 71 dL_piece_70 rfl rfl ?_
                refine s_imulN C 72 dL_piece_71 rfl ?_
                refine s_lshrN C 73 dL_piece_72 rfl (by omega) (by omega) ?_
                refine s_lconst C 74 (lN 1) dL_piece_73 rfl rfl ?_
                refine s_iconst C 75 (nI 5) dL_piece_74 rfl (by decide) ?_
                refine s_iload_n C 76 dL_piece_75 rfl rfl ?_
                refine s_imulN C 77 dL_piece_76 rfl ?_
                refine s_lshlN C 78 dL_piece_77 rfl (by omega) ?_
                refine s_lconst C 79 (lN 1) dL_piece_78 rfl rfl ?_
                refine s_lsubN C 80 dL_piece_79 rfl (by omega) ?_
                refine s_landN C 81 dL_piece_80 rfl ?_
                exact s_lret C dL_piece_81 Tr rfl ⟨by rw [Nat.one_mul, Nat.and_two_pow_sub_one_eq_mod, tP_y (by unfold tPc; omega)], rfl⟩
              · skip
                refine s_lload_n C 55 dL_piece_54 rfl rfl ?_
                refine s_iload_n C 56 dL_piece_55 rfl rfl ?_
                refine s_iconst C 57 (nI 1) dL_piece_56 rfl (by decide) ?_
                refine s_isubN C 58 dL_piece_57 rfl (by omega) ?_
                refine s_invS C 61 0 0 [] dL_piece_58 rfl m_L_12 (l_at (t := f) (k := s - 1) (by omega) (by omega)) rfl rfl rfl ⟨by decide, by decide⟩ (Nat.le_of_ble_eq_true rfl) (by omega) (by omega) ?_
                rintro _ M5 ⟨rfl, rfl⟩
                dsimp only [Option.toList, List.cons_append, List.nil_append]
                refine s_bipush C 63 (nI 27) dL_piece_61 rfl (by decide) ?_
                refine s_icmp_eqN C 68 66 dL_piece_63 (by decide) rfl (by omega) (by omega) (fun z63 => ?_) (fun z63 => ?_)
                · skip
                  refine s_lload_n C 69 dL_piece_68 rfl rfl ?_
                  refine s_iconst C 70 (nI 5) dL_piece_69 rfl (by decide) ?_
                  refine s_iload_n C 71 dL_piece_70 rfl rfl ?_
                  refine s_imulN C 72 dL_piece_71 rfl ?_
                  refine s_lshrN C 73 dL_piece_72 rfl (by omega) (by omega) ?_
                  refine s_lconst C 74 (lN 1) dL_piece_73 rfl rfl ?_
                  refine s_iconst C 75 (nI 5) dL_piece_74 rfl (by decide) ?_
                  refine s_iload_n C 76 dL_piece_75 rfl rfl ?_
                  refine s_imulN C 77 dL_piece_76 rfl ?_
                  refine s_lshlN C 78 dL_piece_77 rfl (by omega) ?_
                  refine s_lconst C 79 (lN 1) dL_piece_78 rfl rfl ?_
                  refine s_lsubN C 80 dL_piece_79 rfl (by omega) ?_
                  refine s_landN C 81 dL_piece_80 rfl ?_
                  exact s_lret C dL_piece_81 Tr rfl ⟨by rw [Nat.one_mul, Nat.and_two_pow_sub_one_eq_mod, tP_y (by unfold tPc; omega)], rfl⟩
                · skip
                  refine s_lconst C 67 (lN 0) dL_piece_66 rfl rfl ?_
                  exact s_lret C dL_piece_67 Tr rfl ⟨by rw [tP_n (by unfold tPc; omega)], rfl⟩

set_option maxRecDepth 100000 in
set_option maxHeartbeats 4000000 in
theorem l_place {G : mG} {M : mM} {t p mo : Nat} (hg : gT t) (hm : mo < 4) (hp60 : p < 2 ^ 60) (hp : p = 0 ∨ gP p) : CC G iL_place 0 0 [.long (lN t), .long (lN p), .int (nI mo)] M (fun r M1 => r = some (.int (oJ (plT t p mo))) ∧ M = M1) := by
  refine CC.of rfl (Nat.le_of_ble_eq_true rfl) rfl (fun X C Tr => ?_)
  show V X 0 0 0 [some (.long (lN t)), none, some (.long (lN p)), none, some (.int (nI mo)), none, none, none] [] M
  have ht60 := hg.g.lt
  refine s_lload_n C 1 dL_place_0 rfl rfl ?_
  refine s_lconst C 2 (lN 0) dL_place_1 rfl rfl ?_
  refine s_lcmp C 3 dL_place_2 rfl ?_
  refine s_if_ne C 8 6 dL_place_3 (by decide) rfl (fun z3 => ?_) (fun z3 => ?_)
  · skip
    have z3 := fun w => z3 ((lcmpN (by omega) (by omega)).mpr w)
    refine s_lload_n C 9 dL_place_8 rfl rfl ?_
    refine s_iload C 11 dL_place_9 rfl rfl ?_
    refine s_invS C 14 0 0 [] dL_place_11 rfl m_L_22 (l_from (t := t) (mo := mo) ht60 hm) rfl rfl rfl ⟨by decide, by decide⟩ (Nat.le_of_ble_eq_true rfl) (by omega) (by omega) ?_
    rintro _ M1 ⟨rfl, rfl⟩
    dsimp only [Option.toList, List.cons_append, List.nil_append]
    refine s_lstore C 16 dL_place_14 rfl rfl rfl ?_
    dsimp only [List.set]
    refine s_iconst C 17 (nI 0) dL_place_16 rfl (by decide) ?_
    refine s_istore C 19 dL_place_17 rfl rfl rfl ?_
    dsimp only [List.set]
    have hgp := hp.resolve_left z3
    have hp0 := hgp.2.2.1
    have hf60 := tFr_lt (mo := mo) hg.g
    suffices lp19 : ∀ (fu19 : Nat) (s : Nat), 13 - s < fu19 → s ≤ tS (tFr t mo) → (∀ y, y < s → tP (tFr t mo) y (tS p) mo ≠ p) → V X 0 0 19 [some (.long (lN t)), none, some (.long (lN p)), none, some (.int (nI mo)), some (.long (lN (tFr t mo))), none, some (.int (nI s))] [] M from lp19 14 0 (by omega) (by omega) (fun y hy => by omega)
    intro fu19
    induction fu19 with
    | zero => intro s hs0 hs hno; omega
    | succ fu19 ih19 =>
      intro s hs0 hs hno
      have h12 := tS_le (t := (tFr t mo))
      have hp12 := tS_le (t := p)
      have hP60 := tP_lt (f := (tFr t mo)) (s := s) (l := tS p) (mo := mo) hp12
      refine s_iload C 21 dL_place_19 rfl rfl ?_
      refine s_lload C 23 dL_place_21 rfl rfl ?_
      refine s_invS C 26 0 0 [.int (nI s)] dL_place_23 rfl m_L_18 (l_size (t := tFr t mo) (by omega)) rfl rfl rfl ⟨by decide, by decide⟩ (Nat.le_of_ble_eq_true rfl) (by omega) (by omega) ?_
      rintro _ M2 ⟨rfl, rfl⟩
      dsimp only [Option.toList, List.cons_append, List.nil_append]
      refine s_icmp_geN C 56 29 dL_place_26 (by decide) rfl (by omega) (by omega) (fun z26 => ?_) (fun z26 => ?_)
      · skip
        have hz : plT t p mo = none := plT_miss hg hm hgp (fun y hy => hno y (by omega))
        refine s_iconst C 57 (-1) dL_place_56 rfl (by decide) ?_
        exact s_iret C dL_place_57 Tr rfl ⟨by rw [hz]; rfl, rfl⟩
      · skip
        refine s_lload C 31 dL_place_29 rfl rfl ?_
        refine s_iload C 33 dL_place_31 rfl rfl ?_
        refine s_lload_n C 34 dL_place_33 rfl rfl ?_
        refine s_invS C 37 0 0 [.int (nI s), .long (lN (tFr t mo))] dL_place_34 rfl m_L_18 (l_size (t := p) (by omega)) rfl rfl rfl ⟨by decide, by decide⟩ (Nat.le_of_ble_eq_true rfl) (by omega) (by omega) ?_
        rintro _ M3 ⟨rfl, rfl⟩
        dsimp only [Option.toList, List.cons_append, List.nil_append]
        refine s_iload C 39 dL_place_37 rfl rfl ?_
        refine s_invS C 42 0 0 [] dL_place_39 rfl m_L_26 (l_piece (f := (tFr t mo)) (s := s) (l := tS p) (mo := mo) hf60 (by omega) (by omega) (by omega) hm) rfl rfl rfl ⟨by decide, by decide⟩ (Nat.le_of_ble_eq_true rfl) (by omega) (by omega) ?_
        rintro _ M4 ⟨rfl, rfl⟩
        dsimp only [Option.toList, List.cons_append, List.nil_append]
        refine s_lload_n C 43 dL_place_42 rfl rfl ?_
        refine s_lcmp C 44 dL_place_43 rfl ?_
        refine s_if_ne C 50 47 dL_place_44 (by decide) rfl (fun z44 => ?_) (fun z44 => ?_)
        · skip
          have z44 := fun w => z44 ((lcmpN (by omega) (by omega)).mpr w)
          refine s_iinc C 53 (nI (s + 1)) dL_place_50 rfl rfl (by rw [← nI_add]; rfl) rfl ?_
          dsimp only [List.set]
          refine s_goto C 19 dL_place_53 (by decide) ?_
          exact ih19 (s + 1) (by omega) (by omega) (fun y hy => by by_cases e : y = s; (· rw [e]; exact z44); exact hno y (by omega))
        · skip
          have z44 := (lcmpN (by omega) (by omega)).mp z44
          have hz : plT t p mo = some s := plT_hit hg hm hgp z44 hno
          refine s_iload C 49 dL_place_47 rfl rfl ?_
          exact s_iret C dL_place_49 Tr rfl ⟨by rw [hz]; rfl, rfl⟩
  · skip
    have z3 := (lcmpN (by omega) (by omega)).mp z3
    have hz : plT t p mo = some 0 := by rw [z3]; exact plT_0
    refine s_iconst C 7 (nI 0) dL_place_6 rfl (by decide) ?_
    exact s_iret C dL_place_7 Tr rfl ⟨by rw [hz]; rfl, rfl⟩

set_option maxRecDepth 100000 in
set_option maxHeartbeats 4000000 in
theorem l_named {G : mG} {M : mM} {a b : Nat} (ha : gT a) (hb : gT b) (hne : ¬ a = b) : CC G iL_named 0 0 [.long (lN a), .long (lN b)] M (fun r M1 => r = some (.int (mB (nb (tF a) (tF b) (tS a) (tS b) 0 (tS a)))) ∧ M = M1) := by
  refine CC.of rfl (Nat.le_of_ble_eq_true rfl) rfl (fun X C Tr => ?_)
  show V X 0 0 0 [some (.long (lN a)), none, some (.long (lN b)), none, none] [] M
  have ha60 := ha.g.lt
  have hb60 := hb.g.lt
  refine s_iconst C 1 (nI 0) dL_named_0 rfl (by decide) ?_
  refine s_istore C 3 dL_named_1 rfl rfl rfl ?_
  dsimp only [List.set]
  suffices lp3 : ∀ (fu3 : Nat) (k : Nat), 13 - k < fu3 → k ≤ tS a → k ≤ tS b → (∀ x, x < k → tA a x = tA b x) → nb (tF a) (tF b) (tS a) (tS b) 0 (tS a) = nb (tF a) (tF b) (tS a) (tS b) k (tS a - k) → V X 0 0 3 [some (.long (lN a)), none, some (.long (lN b)), none, some (.int (nI k))] [] M from lp3 14 0 (by omega) (by omega) (by omega) (fun x hx => by omega) rfl
  intro fu3
  induction fu3 with
  | zero => intro k hk0 hka hkb heq hnb; omega
  | succ fu3 ih3 =>
    intro k hk0 hka hkb heq hnb
    have h12 := tS_le (t := a)
    have hb12 := tS_le (t := b)
    have hA := tA_lt (t := a) (k := k)
    have hB := tA_lt (t := b) (k := k)
    have hC := tC_lt hA
    have hD := tC_lt hB
    have hza := tS_z ha.g.lt
    have hzb := tS_z hb.g.lt
    refine s_lload_n C 4 dL_named_3 rfl rfl ?_
    refine s_iload C 6 dL_named_4 rfl rfl ?_
    refine s_invS C 9 0 0 [] dL_named_6 rfl m_L_12 (l_at (t := a) (k := k) (by omega) (by omega)) rfl rfl rfl ⟨by decide, by decide⟩ (Nat.le_of_ble_eq_true rfl) (by omega) (by omega) ?_
    rintro _ M1 ⟨rfl, rfl⟩
    dsimp only [Option.toList, List.cons_append, List.nil_append]
    refine s_lload_n C 10 dL_named_9 rfl rfl ?_
    refine s_iload C 12 dL_named_10 rfl rfl ?_
    refine s_invS C 15 0 0 [.int (nI (tA a k))] dL_named_12 rfl m_L_12 (l_at (t := b) (k := k) (by omega) (by omega)) rfl rfl rfl ⟨by decide, by decide⟩ (Nat.le_of_ble_eq_true rfl) (by omega) (by omega) ?_
    rintro _ M2 ⟨rfl, rfl⟩
    dsimp only [Option.toList, List.cons_append, List.nil_append]
    refine s_icmp_neN C 33 18 dL_named_15 (by decide) rfl (by omega) (by omega) (fun z15 => ?_) (fun z15 => ?_)
    · skip
      refine s_lload_n C 34 dL_named_33 rfl rfl ?_
      refine s_iload C 36 dL_named_34 rfl rfl ?_
      refine s_invS C 39 0 0 [] dL_named_36 rfl m_L_12 (l_at (t := a) (k := k) (by omega) (by omega)) rfl rfl rfl ⟨by decide, by decide⟩ (Nat.le_of_ble_eq_true rfl) (by omega) (by omega) ?_
      rintro _ M3 ⟨rfl, rfl⟩
      dsimp only [Option.toList, List.cons_append, List.nil_append]
      refine s_if_eqN C 51 42 dL_named_39 (by decide) rfl (by omega) (fun z39 => ?_) (fun z39 => ?_)
      · skip
        have e1 : k = tS a := by by_cases w : k < tS a; (· exact absurd z39 (tS_at w)); omega
        have hlb : k < tS b := by by_cases w : k < tS b; (· exact w); exact absurd (by rw [show k = tS b by omega]; exact hzb) (by rw [z39] at z15; exact fun w => z15 w.symm : ¬ tA b k = 0)
        have hz : nb (tF a) (tF b) (tS a) (tS b) 0 (tS a) = true := by rw [hnb, nb_stop (by omega)]; exact decide_eq_true (by omega)
        refine s_lload_n C 52 dL_named_51 rfl rfl ?_
        refine s_iload C 54 dL_named_52 rfl rfl ?_
        refine s_invS C 57 0 0 [] dL_named_54 rfl m_L_12 (l_at (t := a) (k := k) (by omega) (by omega)) rfl rfl rfl ⟨by decide, by decide⟩ (Nat.le_of_ble_eq_true rfl) (by omega) (by omega) ?_
        rintro _ M4 ⟨rfl, rfl⟩
        dsimp only [Option.toList, List.cons_append, List.nil_append]
        refine s_if_neN C 64 60 dL_named_57 (by decide) rfl (by omega) (fun z57 => ?_) (fun z57 => ?_)
        · skip
          omega
        · skip
          refine s_iconst C 61 (nI 1) dL_named_60 rfl (by decide) ?_
          refine s_goto C 65 dL_named_61 (by decide) ?_
          exact s_zret C dL_named_65 Tr rfl (by decide) ⟨rT hz, rfl⟩
      · skip
        refine s_lload_n C 43 dL_named_42 rfl rfl ?_
        refine s_iload C 45 dL_named_43 rfl rfl ?_
        refine s_invS C 48 0 0 [] dL_named_45 rfl m_L_12 (l_at (t := b) (k := k) (by omega) (by omega)) rfl rfl rfl ⟨by decide, by decide⟩ (Nat.le_of_ble_eq_true rfl) (by omega) (by omega) ?_
        rintro _ M5 ⟨rfl, rfl⟩
        dsimp only [Option.toList, List.cons_append, List.nil_append]
        refine s_if_neN C 66 51 dL_named_48 (by decide) rfl (by omega) (fun z48 => ?_) (fun z48 => ?_)
        · skip
          have hla : k < tS a := by by_cases w : k < tS a; (· exact w); exact absurd (by rw [show k = tS a by omega]; exact hza) z39
          have hlb : k < tS b := by by_cases w : k < tS b; (· exact w); exact absurd (by rw [show k = tS b by omega]; exact hzb) z48
          have hne2 : ¬ tF a k = tF b k := fun w => z15 ((tF_eq ha.c hb.c hla hlb).mp w)
          have hnz : nb (tF a) (tF b) (tS a) (tS b) 0 (tS a) = decide (tF a k < tF b k) := by rw [hnb, nb_ne (by omega) hla hlb hne2]
          have hlt : tF a k < tF b k ↔ tC (tA a k) < tC (tA b k) := nI_ltI (by omega) (by omega)
          refine s_lload_n C 67 dL_named_66 rfl rfl ?_
          refine s_iload C 69 dL_named_67 rfl rfl ?_
          refine s_invS C 72 0 0 [] dL_named_69 rfl m_L_12 (l_at (t := a) (k := k) (by omega) (by omega)) rfl rfl rfl ⟨by decide, by decide⟩ (Nat.le_of_ble_eq_true rfl) (by omega) (by omega) ?_
          rintro _ M6 ⟨rfl, rfl⟩
          dsimp only [Option.toList, List.cons_append, List.nil_append]
          refine s_invS C 75 0 0 [] dL_named_72 rfl m_L_30 (l_code (c := tA a k) (by omega)) rfl rfl rfl ⟨by decide, by decide⟩ (Nat.le_of_ble_eq_true rfl) (by omega) (by omega) ?_
          rintro _ M7 ⟨rfl, rfl⟩
          dsimp only [Option.toList, List.cons_append, List.nil_append]
          refine s_lload_n C 76 dL_named_75 rfl rfl ?_
          refine s_iload C 78 dL_named_76 rfl rfl ?_
          refine s_invS C 81 0 0 [.int (nI (tC (tA a k)))] dL_named_78 rfl m_L_12 (l_at (t := b) (k := k) (by omega) (by omega)) rfl rfl rfl ⟨by decide, by decide⟩ (Nat.le_of_ble_eq_true rfl) (by omega) (by omega) ?_
          rintro _ M8 ⟨rfl, rfl⟩
          dsimp only [Option.toList, List.cons_append, List.nil_append]
          refine s_invS C 84 0 0 [.int (nI (tC (tA a k)))] dL_named_81 rfl m_L_30 (l_code (c := tA b k) (by omega)) rfl rfl rfl ⟨by decide, by decide⟩ (Nat.le_of_ble_eq_true rfl) (by omega) (by omega) ?_
          rintro _ M9 ⟨rfl, rfl⟩
          dsimp only [Option.toList, List.cons_append, List.nil_append]
          refine s_icmp_geN C 91 87 dL_named_84 (by decide) rfl (by omega) (by omega) (fun z84 => ?_) (fun z84 => ?_)
          · skip
            have hz : nb (tF a) (tF b) (tS a) (tS b) 0 (tS a) = false := by rw [hnz]; exact decide_eq_false (fun w => by have := hlt.mp w; omega)
            refine s_iconst C 92 (nI 0) dL_named_91 rfl (by decide) ?_
            exact s_zret C dL_named_92 Tr rfl (by decide) ⟨rF hz, rfl⟩
          · skip
            have hz : nb (tF a) (tF b) (tS a) (tS b) 0 (tS a) = true := by rw [hnz]; exact decide_eq_true (hlt.mpr (by omega))
            refine s_iconst C 88 (nI 1) dL_named_87 rfl (by decide) ?_
            refine s_goto C 92 dL_named_88 (by decide) ?_
            exact s_zret C dL_named_92 Tr rfl (by decide) ⟨rT hz, rfl⟩
        · skip
          have e1 : k = tS b := by by_cases w : k < tS b; (· exact absurd z48 (tS_at w)); omega
          have hla : k < tS a := by by_cases w : k < tS a; (· exact w); exact absurd (by rw [show k = tS a by omega]; exact hza) z39
          have hz : nb (tF a) (tF b) (tS a) (tS b) 0 (tS a) = false := by rw [hnb, nb_stop (by omega)]; exact decide_eq_false (by omega)
          refine s_lload_n C 52 dL_named_51 rfl rfl ?_
          refine s_iload C 54 dL_named_52 rfl rfl ?_
          refine s_invS C 57 0 0 [] dL_named_54 rfl m_L_12 (l_at (t := a) (k := k) (by omega) (by omega)) rfl rfl rfl ⟨by decide, by decide⟩ (Nat.le_of_ble_eq_true rfl) (by omega) (by omega) ?_
          rintro _ M10 ⟨rfl, rfl⟩
          dsimp only [Option.toList, List.cons_append, List.nil_append]
          refine s_if_neN C 64 60 dL_named_57 (by decide) rfl (by omega) (fun z57 => ?_) (fun z57 => ?_)
          · skip
            refine s_iconst C 65 (nI 0) dL_named_64 rfl (by decide) ?_
            exact s_zret C dL_named_65 Tr rfl (by decide) ⟨rF hz, rfl⟩
          · skip
            omega
    · skip
      refine s_lload_n C 19 dL_named_18 rfl rfl ?_
      refine s_iload C 21 dL_named_19 rfl rfl ?_
      refine s_invS C 24 0 0 [] dL_named_21 rfl m_L_12 (l_at (t := a) (k := k) (by omega) (by omega)) rfl rfl rfl ⟨by decide, by decide⟩ (Nat.le_of_ble_eq_true rfl) (by omega) (by omega) ?_
      rintro _ M11 ⟨rfl, rfl⟩
      dsimp only [Option.toList, List.cons_append, List.nil_append]
      refine s_if_eqN C 33 27 dL_named_24 (by decide) rfl (by omega) (fun z24 => ?_) (fun z24 => ?_)
      · skip
        refine absurd ?_ hne
        have e1 : tS a = k := tS_of (by omega) (fun x hx => tS_at (by omega)) z24
        have e2 : tS b = k := tS_of (by omega) (fun x hx => tS_at (by omega)) (by rw [← z15]; exact z24)
        exact gn_ext ha.g hb.g (by omega) (fun x hx => heq x (by omega))
      · skip
        have hla : k < tS a := by by_cases w : k < tS a; (· exact w); exact absurd (by rw [show k = tS a by omega]; exact hza) z24
        have hlb : k < tS b := by by_cases w : k < tS b; (· exact w); exact absurd (by rw [show k = tS b by omega]; exact hzb) (by rw [← z15]; exact z24 : ¬ tA b k = 0)
        refine s_iinc C 30 (nI (k + 1)) dL_named_27 rfl rfl (by rw [← nI_add]; rfl) rfl ?_
        dsimp only [List.set]
        refine s_goto C 3 dL_named_30 (by decide) ?_
        exact ih3 (k + 1) (by omega) (by omega) (by omega) (fun x hx => by by_cases e : x = k; (· rw [e]; exact z15); exact heq x (by omega)) (by rw [hnb, nb_eq (by omega) hla hlb (tF_A z15), show tS a - k - 1 = tS a - (k + 1) by omega])

set_option maxRecDepth 100000 in
set_option maxHeartbeats 4000000 in
theorem l_cut {G : mG} {M : mM} {q : Nat} (hq : q < 2 ^ 60) : CC G iL_cut 0 0 [.long (lN q)] M (fun r M1 => r = some (.long (lN (tCut q))) ∧ M = M1) := by
  refine CC.of rfl (Nat.le_of_ble_eq_true rfl) rfl (fun X C Tr => ?_)
  show V X 0 0 0 [some (.long (lN q)), none, none] [] M
  have h12 := tS_le (t := q)
  have hp := Nat.two_pow_pos (5 * tS q - 5)
  have hA := tA_lt (t := q) (k := tS q - 1)
  refine s_lload_n C 1 dL_cut_0 rfl rfl ?_
  refine s_invS C 4 0 0 [] dL_cut_1 rfl m_L_18 (l_size (t := q) (by omega)) rfl rfl rfl ⟨by decide, by decide⟩ (Nat.le_of_ble_eq_true rfl) (by omega) (by omega) ?_
  rintro _ M1 ⟨rfl, rfl⟩
  dsimp only [Option.toList, List.cons_append, List.nil_append]
  refine s_istore_n C 5 dL_cut_4 rfl rfl rfl ?_
  dsimp only [List.set]
  refine s_iload_n C 6 dL_cut_5 rfl rfl ?_
  refine s_if_leN C 35 9 dL_cut_6 (by decide) rfl (by omega) (fun z6 => ?_) (fun z6 => ?_)
  · skip
    refine s_lload_n C 36 dL_cut_35 rfl rfl ?_
    exact s_lret C dL_cut_36 Tr rfl ⟨by unfold tCut; rw [if_neg (by omega)], rfl⟩
  · skip
    refine s_lload_n C 10 dL_cut_9 rfl rfl ?_
    refine s_iload_n C 11 dL_cut_10 rfl rfl ?_
    refine s_iconst C 12 (nI 1) dL_cut_11 rfl (by decide) ?_
    refine s_isubN C 13 dL_cut_12 rfl (by omega) ?_
    refine s_invS C 16 0 0 [] dL_cut_13 rfl m_L_12 (l_at (t := q) (k := (tS q) - 1) (by omega) (by omega)) rfl rfl rfl ⟨by decide, by decide⟩ (Nat.le_of_ble_eq_true rfl) (by omega) (by omega) ?_
    rintro _ M2 ⟨rfl, rfl⟩
    dsimp only [Option.toList, List.cons_append, List.nil_append]
    refine s_bipush C 18 (nI 27) dL_cut_16 rfl (by decide) ?_
    refine s_icmp_neN C 35 21 dL_cut_18 (by decide) rfl (by omega) (by omega) (fun z18 => ?_) (fun z18 => ?_)
    · skip
      refine s_lload_n C 36 dL_cut_35 rfl rfl ?_
      exact s_lret C dL_cut_36 Tr rfl ⟨by unfold tCut; rw [if_neg (by omega)], rfl⟩
    · skip
      refine s_lload_n C 22 dL_cut_21 rfl rfl ?_
      refine s_lconst C 23 (lN 1) dL_cut_22 rfl rfl ?_
      refine s_iconst C 24 (nI 5) dL_cut_23 rfl (by decide) ?_
      refine s_iload_n C 25 dL_cut_24 rfl rfl ?_
      refine s_imulN C 26 dL_cut_25 rfl ?_
      refine s_iconst C 27 (nI 5) dL_cut_26 rfl (by decide) ?_
      refine s_isubN C 28 dL_cut_27 rfl (by omega) ?_
      refine s_lshlN C 29 dL_cut_28 rfl (by omega) ?_
      refine s_lconst C 30 (lN 1) dL_cut_29 rfl rfl ?_
      refine s_lsubN C 31 dL_cut_30 rfl (by omega) ?_
      refine s_landN C 32 dL_cut_31 rfl ?_
      refine s_goto C 36 dL_cut_32 (by decide) ?_
      exact s_lret C dL_cut_36 Tr rfl ⟨by unfold tCut; rw [if_pos (by omega), Nat.one_mul, Nat.and_two_pow_sub_one_eq_mod, show 5 * tS q - 5 = 5 * (tS q - 1) by omega], rfl⟩

set_option maxRecDepth 100000 in
set_option maxHeartbeats 4000000 in
theorem l_common {G : mG} {M : mM} {a b : Nat} (ha : gT a) (hb : gT b) : CC G iL_common 0 0 [.long (lN a), .long (lN b)] M (fun r M1 => r = some (.int (nI (cmI (tF a) (tF b) (tS a) (tS b) (tS a)))) ∧ M = M1) := by
  refine CC.of rfl (Nat.le_of_ble_eq_true rfl) rfl (fun X C Tr => ?_)
  show V X 0 0 0 [some (.long (lN a)), none, some (.long (lN b)), none, none, none, none, none] [] M
  have ha60 := ha.g.lt
  have hb60 := hb.g.lt
  refine s_iconst C 1 (nI 0) dL_common_0 rfl (by decide) ?_
  refine s_istore C 3 dL_common_1 rfl rfl rfl ?_
  dsimp only [List.set]
  refine s_iconst C 4 (nI 0) dL_common_3 rfl (by decide) ?_
  refine s_istore C 6 dL_common_4 rfl rfl rfl ?_
  dsimp only [List.set]
  suffices lp6 : ∀ (fu6 : Nat) (i : Nat), 13 - i < fu6 → i ≤ tS a → V X 0 0 6 [some (.long (lN a)), none, some (.long (lN b)), none, some (.int (nI (cmI (tF a) (tF b) (tS a) (tS b) i))), some (.int (nI i)), none, none] [] M from lp6 14 0 (by omega) (by omega)
  intro fu6
  induction fu6 with
  | zero => intro i hi0 hi; omega
  | succ fu6 ih6 =>
    intro i hi0 hi
    have h12 := tS_le (t := a)
    have hb12 := tS_le (t := b)
    have hci := cmI_le (f := tF a) (g := tF b) (n := tS a) (m := tS b) i
    refine s_iload C 8 dL_common_6 rfl rfl ?_
    refine s_lload_n C 9 dL_common_8 rfl rfl ?_
    refine s_invS C 12 0 0 [.int (nI i)] dL_common_9 rfl m_L_18 (l_size (t := a) (by omega)) rfl rfl rfl ⟨by decide, by decide⟩ (Nat.le_of_ble_eq_true rfl) (by omega) (by omega) ?_
    rintro _ M1 ⟨rfl, rfl⟩
    dsimp only [Option.toList, List.cons_append, List.nil_append]
    refine s_icmp_geN C 109 15 dL_common_12 (by decide) rfl (by omega) (by omega) (fun z12 => ?_) (fun z12 => ?_)
    · skip
      have hz : i = tS a := by omega
      refine s_iload C 111 dL_common_109 rfl rfl ?_
      exact s_iret C dL_common_111 Tr rfl ⟨by rw [hz], rfl⟩
    · skip
      refine s_iconst C 16 (nI 0) dL_common_15 rfl (by decide) ?_
      refine s_istore C 18 dL_common_16 rfl rfl rfl ?_
      dsimp only [List.set]
      rw [show cmI (tF a) (tF b) (tS a) (tS b) i = max (cmI (tF a) (tF b) (tS a) (tS b) i) (cmJ (tF a) (tF b) (tS a) (tS b) i 0) from (Nat.max_eq_left (Nat.zero_le _)).symm]
      suffices lp18 : ∀ (fu18 : Nat) (j : Nat), 13 - j < fu18 → j ≤ tS b → V X 0 0 18 [some (.long (lN a)), none, some (.long (lN b)), none, some (.int (nI (max (cmI (tF a) (tF b) (tS a) (tS b) i) (cmJ (tF a) (tF b) (tS a) (tS b) i j)))), some (.int (nI i)), some (.int (nI j)), none] [] M from lp18 14 0 (by omega) (by omega)
      intro fu18
      induction fu18 with
      | zero => intro j hj0 hj; omega
      | succ fu18 ih18 =>
        intro j hj0 hj
        have hcj := cmJ_le (f := tF a) (g := tF b) (n := tS a) (m := tS b) (i := i) j
        refine s_iload C 20 dL_common_18 rfl rfl ?_
        refine s_lload_n C 21 dL_common_20 rfl rfl ?_
        refine s_invS C 24 0 0 [.int (nI j)] dL_common_21 rfl m_L_18 (l_size (t := b) (by omega)) rfl rfl rfl ⟨by decide, by decide⟩ (Nat.le_of_ble_eq_true rfl) (by omega) (by omega) ?_
        rintro _ M2 ⟨rfl, rfl⟩
        dsimp only [Option.toList, List.cons_append, List.nil_append]
        refine s_icmp_geN C 103 27 dL_common_24 (by decide) rfl (by omega) (by omega) (fun z24 => ?_) (fun z24 => ?_)
        · skip
          refine s_iinc C 106 (nI (i + 1)) dL_common_103 rfl rfl (by rw [← nI_add]; rfl) rfl ?_
          dsimp only [List.set]
          refine s_goto C 6 dL_common_106 (by decide) ?_
          refine V.drop 6 ?_
          dsimp only [List.set]
          have e9 : cmI (tF a) (tF b) (tS a) (tS b) (i + 1) = max (cmI (tF a) (tF b) (tS a) (tS b) i) (cmJ (tF a) (tF b) (tS a) (tS b) i j) := by rw [cmI, show j = tS b by omega]
          have i9 := ih6 (i + 1) (by omega) (by omega)
          rw [e9] at i9
          exact i9
        · skip
          refine s_iconst C 28 (nI 0) dL_common_27 rfl (by decide) ?_
          refine s_istore C 30 dL_common_28 rfl rfl rfl ?_
          dsimp only [List.set]
          suffices lp30 : ∀ (fu30 : Nat) (c : Nat), 13 - c < fu30 → i + c ≤ tS a → j + c ≤ tS b → sl (tF a) (tF b) (tS a) (tS b) i j 24 = c + sl (tF a) (tF b) (tS a) (tS b) (i + c) (j + c) (24 - c) → V X 0 0 30 [some (.long (lN a)), none, some (.long (lN b)), none, some (.int (nI (max (cmI (tF a) (tF b) (tS a) (tS b) i) (cmJ (tF a) (tF b) (tS a) (tS b) i j)))), some (.int (nI i)), some (.int (nI j)), some (.int (nI c))] [] M from lp30 14 0 (by omega) (by omega) (by omega) (by rw [Nat.zero_add]; rfl)
          intro fu30
          induction fu30 with
          | zero => intro c hc0 hca hcb hs; omega
          | succ fu30 ih30 =>
            intro c hc0 hca hcb hs
            have hA := tA_lt (t := a) (k := i + c)
            have hB := tA_lt (t := b) (k := j + c)
            refine s_iload C 32 dL_common_30 rfl rfl ?_
            refine s_iload C 34 dL_common_32 rfl rfl ?_
            refine s_iaddN C 35 dL_common_34 rfl ?_
            refine s_lload_n C 36 dL_common_35 rfl rfl ?_
            refine s_invS C 39 0 0 [.int (nI (i + c))] dL_common_36 rfl m_L_18 (l_size (t := a) (by omega)) rfl rfl rfl ⟨by decide, by decide⟩ (Nat.le_of_ble_eq_true rfl) (by omega) (by omega) ?_
            rintro _ M3 ⟨rfl, rfl⟩
            dsimp only [Option.toList, List.cons_append, List.nil_append]
            refine s_icmp_geN C 81 42 dL_common_39 (by decide) rfl (by omega) (by omega) (fun z39 => ?_) (fun z39 => ?_)
            · skip
              have hsl : sl (tF a) (tF b) (tS a) (tS b) i j 24 = c := by rw [hs, sl_stop (Or.inr (Or.inl (by omega))), Nat.add_zero]
              refine s_iload C 83 dL_common_81 rfl rfl ?_
              refine s_iload C 85 dL_common_83 rfl rfl ?_
              refine s_icmp_leN C 93 88 dL_common_85 (by decide) rfl (by omega) (by omega) (fun z85 => ?_) (fun z85 => ?_)
              · skip
                refine s_iload C 95 dL_common_93 rfl rfl ?_
                refine s_istore C 97 dL_common_95 rfl rfl rfl ?_
                dsimp only [List.set]
                refine s_iinc C 100 (nI (j + 1)) dL_common_97 rfl rfl (by rw [← nI_add]; rfl) rfl ?_
                dsimp only [List.set]
                refine s_goto C 18 dL_common_100 (by decide) ?_
                refine V.drop 7 ?_
                dsimp only [List.set]
                have e9 : max (cmI (tF a) (tF b) (tS a) (tS b) i) (cmJ (tF a) (tF b) (tS a) (tS b) i (j + 1)) = max (cmI (tF a) (tF b) (tS a) (tS b) i) (cmJ (tF a) (tF b) (tS a) (tS b) i j) := by rw [cmJ, hsl]; omega
                have i9 := ih18 (j + 1) (by omega) (by omega)
                rw [e9] at i9
                exact i9
              · skip
                refine s_iload C 90 dL_common_88 rfl rfl ?_
                refine s_goto C 95 dL_common_90 (by decide) ?_
                refine s_istore C 97 dL_common_95 rfl rfl rfl ?_
                dsimp only [List.set]
                refine s_iinc C 100 (nI (j + 1)) dL_common_97 rfl rfl (by rw [← nI_add]; rfl) rfl ?_
                dsimp only [List.set]
                refine s_goto C 18 dL_common_100 (by decide) ?_
                refine V.drop 7 ?_
                dsimp only [List.set]
                have e9 : max (cmI (tF a) (tF b) (tS a) (tS b) i) (cmJ (tF a) (tF b) (tS a) (tS b) i (j + 1)) = c := by rw [cmJ, hsl]; omega
                have i9 := ih18 (j + 1) (by omega) (by omega)
                rw [e9] at i9
                exact i9
            · skip
              refine s_iload C 44 dL_common_42 rfl rfl ?_
              refine s_iload C 46 dL_common_44 rfl rfl ?_
              refine s_iaddN C 47 dL_common_46 rfl ?_
              refine s_lload_n C 48 dL_common_47 rfl rfl ?_
              refine s_invS C 51 0 0 [.int (nI (j + c))] dL_common_48 rfl m_L_18 (l_size (t := b) (by omega)) rfl rfl rfl ⟨by decide, by decide⟩ (Nat.le_of_ble_eq_true rfl) (by omega) (by omega) ?_
              rintro _ M4 ⟨rfl, rfl⟩
              dsimp only [Option.toList, List.cons_append, List.nil_append]
              refine s_icmp_geN C 81 54 dL_common_51 (by decide) rfl (by omega) (by omega) (fun z51 => ?_) (fun z51 => ?_)
              · skip
                have hsl : sl (tF a) (tF b) (tS a) (tS b) i j 24 = c := by rw [hs, sl_stop (Or.inr (Or.inr (Or.inl (by omega)))), Nat.add_zero]
                refine s_iload C 83 dL_common_81 rfl rfl ?_
                refine s_iload C 85 dL_common_83 rfl rfl ?_
                refine s_icmp_leN C 93 88 dL_common_85 (by decide) rfl (by omega) (by omega) (fun z85 => ?_) (fun z85 => ?_)
                · skip
                  refine s_iload C 95 dL_common_93 rfl rfl ?_
                  refine s_istore C 97 dL_common_95 rfl rfl rfl ?_
                  dsimp only [List.set]
                  refine s_iinc C 100 (nI (j + 1)) dL_common_97 rfl rfl (by rw [← nI_add]; rfl) rfl ?_
                  dsimp only [List.set]
                  refine s_goto C 18 dL_common_100 (by decide) ?_
                  refine V.drop 7 ?_
                  dsimp only [List.set]
                  have e9 : max (cmI (tF a) (tF b) (tS a) (tS b) i) (cmJ (tF a) (tF b) (tS a) (tS b) i (j + 1)) = max (cmI (tF a) (tF b) (tS a) (tS b) i) (cmJ (tF a) (tF b) (tS a) (tS b) i j) := by rw [cmJ, hsl]; omega
                  have i9 := ih18 (j + 1) (by omega) (by omega)
                  rw [e9] at i9
                  exact i9
                · skip
                  refine s_iload C 90 dL_common_88 rfl rfl ?_
                  refine s_goto C 95 dL_common_90 (by decide) ?_
                  refine s_istore C 97 dL_common_95 rfl rfl rfl ?_
                  dsimp only [List.set]
                  refine s_iinc C 100 (nI (j + 1)) dL_common_97 rfl rfl (by rw [← nI_add]; rfl) rfl ?_
                  dsimp only [List.set]
                  refine s_goto C 18 dL_common_100 (by decide) ?_
                  refine V.drop 7 ?_
                  dsimp only [List.set]
                  have e9 : max (cmI (tF a) (tF b) (tS a) (tS b) i) (cmJ (tF a) (tF b) (tS a) (tS b) i (j + 1)) = c := by rw [cmJ, hsl]; omega
                  have i9 := ih18 (j + 1) (by omega) (by omega)
                  rw [e9] at i9
                  exact i9
              · skip
                refine s_lload_n C 55 dL_common_54 rfl rfl ?_
                refine s_iload C 57 dL_common_55 rfl rfl ?_
                refine s_iload C 59 dL_common_57 rfl rfl ?_
                refine s_iaddN C 60 dL_common_59 rfl ?_
                refine s_invS C 63 0 0 [] dL_common_60 rfl m_L_12 (l_at (t := a) (k := i + c) (by omega) (by omega)) rfl rfl rfl ⟨by decide, by decide⟩ (Nat.le_of_ble_eq_true rfl) (by omega) (by omega) ?_
                rintro _ M5 ⟨rfl, rfl⟩
                dsimp only [Option.toList, List.cons_append, List.nil_append]
                refine s_lload_n C 64 dL_common_63 rfl rfl ?_
                refine s_iload C 66 dL_common_64 rfl rfl ?_
                refine s_iload C 68 dL_common_66 rfl rfl ?_
                refine s_iaddN C 69 dL_common_68 rfl ?_
                refine s_invS C 72 0 0 [.int (nI (tA a (i + c)))] dL_common_69 rfl m_L_12 (l_at (t := b) (k := j + c) (by omega) (by omega)) rfl rfl rfl ⟨by decide, by decide⟩ (Nat.le_of_ble_eq_true rfl) (by omega) (by omega) ?_
                rintro _ M6 ⟨rfl, rfl⟩
                dsimp only [Option.toList, List.cons_append, List.nil_append]
                refine s_icmp_neN C 81 75 dL_common_72 (by decide) rfl (by omega) (by omega) (fun z72 => ?_) (fun z72 => ?_)
                · skip
                  have hsl : sl (tF a) (tF b) (tS a) (tS b) i j 24 = c := by rw [hs, sl_stop (Or.inr (Or.inr (Or.inr (fun w => z72 ((tF_eq ha.c hb.c (by omega) (by omega)).mp w))))), Nat.add_zero]
                  refine s_iload C 83 dL_common_81 rfl rfl ?_
                  refine s_iload C 85 dL_common_83 rfl rfl ?_
                  refine s_icmp_leN C 93 88 dL_common_85 (by decide) rfl (by omega) (by omega) (fun z85 => ?_) (fun z85 => ?_)
                  · skip
                    refine s_iload C 95 dL_common_93 rfl rfl ?_
                    refine s_istore C 97 dL_common_95 rfl rfl rfl ?_
                    dsimp only [List.set]
                    refine s_iinc C 100 (nI (j + 1)) dL_common_97 rfl rfl (by rw [← nI_add]; rfl) rfl ?_
                    dsimp only [List.set]
                    refine s_goto C 18 dL_common_100 (by decide) ?_
                    refine V.drop 7 ?_
                    dsimp only [List.set]
                    have e9 : max (cmI (tF a) (tF b) (tS a) (tS b) i) (cmJ (tF a) (tF b) (tS a) (tS b) i (j + 1)) = max (cmI (tF a) (tF b) (tS a) (tS b) i) (cmJ (tF a) (tF b) (tS a) (tS b) i j) := by rw [cmJ, hsl]; omega
                    have i9 := ih18 (j + 1) (by omega) (by omega)
                    rw [e9] at i9
                    exact i9
                  · skip
                    refine s_iload C 90 dL_common_88 rfl rfl ?_
                    refine s_goto C 95 dL_common_90 (by decide) ?_
                    refine s_istore C 97 dL_common_95 rfl rfl rfl ?_
                    dsimp only [List.set]
                    refine s_iinc C 100 (nI (j + 1)) dL_common_97 rfl rfl (by rw [← nI_add]; rfl) rfl ?_
                    dsimp only [List.set]
                    refine s_goto C 18 dL_common_100 (by decide) ?_
                    refine V.drop 7 ?_
                    dsimp only [List.set]
                    have e9 : max (cmI (tF a) (tF b) (tS a) (tS b) i) (cmJ (tF a) (tF b) (tS a) (tS b) i (j + 1)) = c := by rw [cmJ, hsl]; omega
                    have i9 := ih18 (j + 1) (by omega) (by omega)
                    rw [e9] at i9
                    exact i9
                · skip
                  refine s_iinc C 78 (nI (c + 1)) dL_common_75 rfl rfl (by rw [← nI_add]; rfl) rfl ?_
                  dsimp only [List.set]
                  refine s_goto C 30 dL_common_78 (by decide) ?_
                  exact ih30 (c + 1) (by omega) (by omega) (by omega) (by rw [hs, sl_step (by omega) (by omega) (by omega) ((tF_eq ha.c hb.c (by omega) (by omega)).mpr z72), show i + c + 1 = i + (c + 1) by omega, show j + c + 1 = j + (c + 1) by omega, show 24 - c - 1 = 24 - (c + 1) by omega]; omega)

set_option maxRecDepth 100000 in
set_option maxHeartbeats 4000000 in
theorem l_made {G : mG} {M : mM} {x y : Int32} : CC G iL_made 0 0 [.int x, .int y] M (fun r M1 => ∃ t, gT t ∧ r = some (.long (lN t)) ∧ M = M1) := by
  refine CC.of rfl (Nat.le_of_ble_eq_true rfl) rfl (fun X C Tr => ?_)
  show V X 0 0 0 [some (.int x), some (.int y), none, none, none, none, none, none, none] [] M
  refine s_lconst C 1 (lN 0) dL_made_0 rfl rfl ?_
  refine s_lstore_n C 2 dL_made_1 rfl rfl rfl ?_
  dsimp only [List.set]
  refine s_iconst C 3 (nI 1) dL_made_2 rfl (by decide) ?_
  refine s_iload_n C 4 dL_made_3 rfl rfl ?_
  refine s_bipush C 6 (nI 9) dL_made_4 rfl (by decide) ?_
  refine s_invS C 9 0 0 [.int (nI 1)] dL_made_6 rfl m_L_70 (l_low (v := x) (m := 9) (by decide) (by decide)) rfl rfl rfl ⟨by decide, by decide⟩ (Nat.le_of_ble_eq_true rfl) (by omega) (by omega) ?_
  rintro _ M1 ⟨rfl, rfl⟩
  dsimp only [Option.toList, List.cons_append, List.nil_append]
  have hlw_2 := lw_lt (v := x) (m := 9) (by decide)
  refine s_iaddN C 10 dL_made_9 rfl ?_
  refine s_istore C 12 dL_made_10 rfl rfl rfl ?_
  dsimp only [List.set]
  refine s_iconst C 13 (nI 1) dL_made_12 rfl (by decide) ?_
  refine s_istore C 15 dL_made_13 rfl rfl rfl ?_
  dsimp only [List.set]
  refine s_iconst C 16 (nI 0) dL_made_15 rfl (by decide) ?_
  refine s_istore C 18 dL_made_16 rfl rfl rfl ?_
  dsimp only [List.set]
  have hN := lw_lt (v := x) (m := 9) (by decide)
  suffices lp18 : ∀ (fu18 : Nat) (k v9 : Nat) (b : Bool), 11 - k < fu18 → k ≤ (1 + lw x 9) → mdI v9 k (1 + lw x 9) b → V X 0 0 18 [some (.int x), some (.int y), some (.long (lN v9)), none, some (.int (nI (1 + (lw x 9)))), some (.int (mB b)), some (.int (nI k)), none, none] [] M from lp18 12 0 0 true (by omega) (by omega) mdI_0
  intro fu18
  induction fu18 with
  | zero => intro k v9 b hk0 hk hI; omega
  | succ fu18 ih18 =>
    intro k v9 b hk0 hk hI
    refine s_iload C 20 dL_made_18 rfl rfl ?_
    refine s_iload C 22 dL_made_20 rfl rfl ?_
    refine s_icmp_geN C 121 25 dL_made_22 (by decide) rfl (by omega) (by omega) (fun z22 => ?_) (fun z22 => ?_)
    · skip
      have hk9 : k = (1 + lw x 9) := by omega
      refine s_lload_n C 122 dL_made_121 rfl rfl ?_
      exact s_lret C dL_made_122 Tr rfl ⟨v9, by rw [hk9] at hI; exact mdI_T hI (by omega) (by omega), rfl, rfl⟩
    · skip
      refine s_iload_n C 26 dL_made_25 rfl rfl ?_
      refine s_iconst C 27 (nI 2) dL_made_26 rfl (by decide) ?_
      refine s_iload C 29 dL_made_27 rfl rfl ?_
      refine s_imulN C 30 dL_made_29 rfl ?_
      refine s_ishr C 31 dL_made_30 rfl ?_
      refine s_istore C 33 dL_made_31 rfl rfl rfl ?_
      dsimp only [List.set]
      refine s_iload C 35 dL_made_33 rfl rfl ?_
      refine s_if_neB C 61 38 dL_made_35 (by decide) rfl (fun z35 => ?_) (fun z35 => ?_)
      · skip
        refine s_iload_n C 62 dL_made_61 rfl rfl ?_
        refine s_iload C 64 dL_made_62 rfl rfl ?_
        refine s_ishr C 65 dL_made_64 rfl ?_
        refine s_bipush C 67 (nI 9) dL_made_65 rfl (by decide) ?_
        refine s_invS C 70 0 0 [] dL_made_67 rfl m_L_70 (l_low (v := (x >>> ((nI k) &&& 31))) (m := 9) (by decide) (by decide)) rfl rfl rfl ⟨by decide, by decide⟩ (Nat.le_of_ble_eq_true rfl) (by omega) (by omega) ?_
        rintro _ M3 ⟨rfl, rfl⟩
        dsimp only [Option.toList, List.cons_append, List.nil_append]
        have hlw_4 := lw_lt (v := (x >>> ((nI k) &&& 31))) (m := 9) (by decide)
        refine s_if_neN C 78 73 dL_made_70 (by decide) rfl (by omega) (fun z70 => ?_) (fun z70 => ?_)
        · skip
          refine s_iconst C 79 (nI 1) dL_made_78 rfl (by decide) ?_
          refine s_iload C 81 dL_made_79 rfl rfl ?_
          refine s_iconst C 82 (nI 1) dL_made_81 rfl (by decide) ?_
          refine s_ishr C 83 dL_made_82 rfl ?_
          refine s_iconst C 84 (nI 2) dL_made_83 rfl (by decide) ?_
          refine s_invS C 87 0 0 [.int (nI 1)] dL_made_84 rfl m_L_70 (l_low (v := ((y >>> ((nI (2 * k)) &&& 31)) >>> ((nI 1) &&& 31))) (m := 2) (by decide) (by decide)) rfl rfl rfl ⟨by decide, by decide⟩ (Nat.le_of_ble_eq_true rfl) (by omega) (by omega) ?_
          rintro _ M5 ⟨rfl, rfl⟩
          dsimp only [Option.toList, List.cons_append, List.nil_append]
          have hlw_6 := lw_lt (v := ((y >>> ((nI (2 * k)) &&& 31)) >>> ((nI 1) &&& 31))) (m := 2) (by decide)
          refine s_iaddN C 88 dL_made_87 rfl ?_
          have hlw2 : (lw ((y >>> ((nI (2 * k)) &&& 31)) >>> ((nI 1) &&& 31)) 2) < 2 := lw_lt (by decide)
          refine s_istore C 90 dL_made_88 rfl rfl rfl ?_
          dsimp only [List.set]
          refine s_iload C 92 dL_made_90 rfl rfl ?_
          refine s_bipush C 94 (nI 27) dL_made_92 rfl (by decide) ?_
          refine s_icmp_neN C 101 97 dL_made_94 (by decide) rfl (by omega) (by omega) (fun z94 => ?_) (fun z94 => ?_)
          · skip
            refine s_iconst C 102 (nI 0) dL_made_101 rfl (by decide) ?_
            refine s_istore C 104 dL_made_102 rfl rfl rfl ?_
            dsimp only [List.set]
            refine s_lload_n C 105 dL_made_104 rfl rfl ?_
            refine s_iload C 107 dL_made_105 rfl rfl ?_
            refine s_i2lN C 108 dL_made_107 rfl (by omega) ?_
            refine s_iconst C 109 (nI 5) dL_made_108 rfl (by decide) ?_
            refine s_iload C 111 dL_made_109 rfl rfl ?_
            refine s_imulN C 112 dL_made_111 rfl ?_
            refine s_lshlN C 113 dL_made_112 rfl (by omega) ?_
            refine s_lorN C 114 dL_made_113 rfl ?_
            refine s_lstore_n C 115 dL_made_114 rfl rfl rfl ?_
            dsimp only [List.set]
            refine s_iinc C 118 (nI (k + 1)) dL_made_115 rfl rfl (by rw [← nI_add]; rfl) rfl ?_
            dsimp only [List.set]
            refine s_goto C 18 dL_made_118 (by decide) ?_
            refine V.drop 7 ?_
            dsimp only [List.set]
            refine V.drop 8 ?_
            dsimp only [List.set]
            obtain ⟨e8, hI9⟩ := mdI_s hI (c := 1 + (lw ((y >>> ((nI (2 * k)) &&& 31)) >>> ((nI 1) &&& 31)) 2)) (by omega) (by omega) (fun w => by omega)
            rw [e8]
            have i9 := ih18 (k + 1) _ false (by omega) (by omega) (by rw [show decide (1 + (lw ((y >>> ((nI (2 * k)) &&& 31)) >>> ((nI 1) &&& 31)) 2) = 27) = false from decide_eq_false (by omega)] at hI9; exact hI9)
            exact i9
          · skip
            omega
        · skip
          refine s_bipush C 75 (nI 28) dL_made_73 rfl (by decide) ?_
          refine s_goto C 88 dL_made_75 (by decide) ?_
          refine s_istore C 90 dL_made_88 rfl rfl rfl ?_
          dsimp only [List.set]
          refine s_iload C 92 dL_made_90 rfl rfl ?_
          refine s_bipush C 94 (nI 27) dL_made_92 rfl (by decide) ?_
          refine s_icmp_neN C 101 97 dL_made_94 (by decide) rfl (by omega) (by omega) (fun z94 => ?_) (fun z94 => ?_)
          · skip
            refine s_iconst C 102 (nI 0) dL_made_101 rfl (by decide) ?_
            refine s_istore C 104 dL_made_102 rfl rfl rfl ?_
            dsimp only [List.set]
            refine s_lload_n C 105 dL_made_104 rfl rfl ?_
            refine s_iload C 107 dL_made_105 rfl rfl ?_
            refine s_i2lN C 108 dL_made_107 rfl (by omega) ?_
            refine s_iconst C 109 (nI 5) dL_made_108 rfl (by decide) ?_
            refine s_iload C 111 dL_made_109 rfl rfl ?_
            refine s_imulN C 112 dL_made_111 rfl ?_
            refine s_lshlN C 113 dL_made_112 rfl (by omega) ?_
            refine s_lorN C 114 dL_made_113 rfl ?_
            refine s_lstore_n C 115 dL_made_114 rfl rfl rfl ?_
            dsimp only [List.set]
            refine s_iinc C 118 (nI (k + 1)) dL_made_115 rfl rfl (by rw [← nI_add]; rfl) rfl ?_
            dsimp only [List.set]
            refine s_goto C 18 dL_made_118 (by decide) ?_
            refine V.drop 7 ?_
            dsimp only [List.set]
            refine V.drop 8 ?_
            dsimp only [List.set]
            obtain ⟨e8, hI9⟩ := mdI_s hI (c := 28) (by omega) (by omega) (fun w => by omega)
            rw [e8]
            have i9 := ih18 (k + 1) _ false (by omega) (by omega) (by rw [show decide (28 = 27) = false from decide_eq_false (by omega)] at hI9; exact hI9)
            exact i9
          · skip
            omega
      · skip
        refine s_iload C 40 dL_made_38 rfl rfl ?_
        refine s_iload C 42 dL_made_40 rfl rfl ?_
        refine s_iconst C 43 (nI 1) dL_made_42 rfl (by decide) ?_
        refine s_isubN C 44 dL_made_43 rfl (by omega) ?_
        refine s_icmp_geN C 61 47 dL_made_44 (by decide) rfl (by omega) (by omega) (fun z44 => ?_) (fun z44 => ?_)
        · skip
          refine s_iload_n C 62 dL_made_61 rfl rfl ?_
          refine s_iload C 64 dL_made_62 rfl rfl ?_
          refine s_ishr C 65 dL_made_64 rfl ?_
          refine s_bipush C 67 (nI 9) dL_made_65 rfl (by decide) ?_
          refine s_invS C 70 0 0 [] dL_made_67 rfl m_L_70 (l_low (v := (x >>> ((nI k) &&& 31))) (m := 9) (by decide) (by decide)) rfl rfl rfl ⟨by decide, by decide⟩ (Nat.le_of_ble_eq_true rfl) (by omega) (by omega) ?_
          rintro _ M7 ⟨rfl, rfl⟩
          dsimp only [Option.toList, List.cons_append, List.nil_append]
          have hlw_8 := lw_lt (v := (x >>> ((nI k) &&& 31))) (m := 9) (by decide)
          refine s_if_neN C 78 73 dL_made_70 (by decide) rfl (by omega) (fun z70 => ?_) (fun z70 => ?_)
          · skip
            refine s_iconst C 79 (nI 1) dL_made_78 rfl (by decide) ?_
            refine s_iload C 81 dL_made_79 rfl rfl ?_
            refine s_iconst C 82 (nI 1) dL_made_81 rfl (by decide) ?_
            refine s_ishr C 83 dL_made_82 rfl ?_
            refine s_iconst C 84 (nI 2) dL_made_83 rfl (by decide) ?_
            refine s_invS C 87 0 0 [.int (nI 1)] dL_made_84 rfl m_L_70 (l_low (v := ((y >>> ((nI (2 * k)) &&& 31)) >>> ((nI 1) &&& 31))) (m := 2) (by decide) (by decide)) rfl rfl rfl ⟨by decide, by decide⟩ (Nat.le_of_ble_eq_true rfl) (by omega) (by omega) ?_
            rintro _ M9 ⟨rfl, rfl⟩
            dsimp only [Option.toList, List.cons_append, List.nil_append]
            have hlw_10 := lw_lt (v := ((y >>> ((nI (2 * k)) &&& 31)) >>> ((nI 1) &&& 31))) (m := 2) (by decide)
            refine s_iaddN C 88 dL_made_87 rfl ?_
            have hlw2 : (lw ((y >>> ((nI (2 * k)) &&& 31)) >>> ((nI 1) &&& 31)) 2) < 2 := lw_lt (by decide)
            refine s_istore C 90 dL_made_88 rfl rfl rfl ?_
            dsimp only [List.set]
            refine s_iload C 92 dL_made_90 rfl rfl ?_
            refine s_bipush C 94 (nI 27) dL_made_92 rfl (by decide) ?_
            refine s_icmp_neN C 101 97 dL_made_94 (by decide) rfl (by omega) (by omega) (fun z94 => ?_) (fun z94 => ?_)
            · skip
              refine s_iconst C 102 (nI 0) dL_made_101 rfl (by decide) ?_
              refine s_istore C 104 dL_made_102 rfl rfl rfl ?_
              dsimp only [List.set]
              refine s_lload_n C 105 dL_made_104 rfl rfl ?_
              refine s_iload C 107 dL_made_105 rfl rfl ?_
              refine s_i2lN C 108 dL_made_107 rfl (by omega) ?_
              refine s_iconst C 109 (nI 5) dL_made_108 rfl (by decide) ?_
              refine s_iload C 111 dL_made_109 rfl rfl ?_
              refine s_imulN C 112 dL_made_111 rfl ?_
              refine s_lshlN C 113 dL_made_112 rfl (by omega) ?_
              refine s_lorN C 114 dL_made_113 rfl ?_
              refine s_lstore_n C 115 dL_made_114 rfl rfl rfl ?_
              dsimp only [List.set]
              refine s_iinc C 118 (nI (k + 1)) dL_made_115 rfl rfl (by rw [← nI_add]; rfl) rfl ?_
              dsimp only [List.set]
              refine s_goto C 18 dL_made_118 (by decide) ?_
              refine V.drop 7 ?_
              dsimp only [List.set]
              refine V.drop 8 ?_
              dsimp only [List.set]
              obtain ⟨e8, hI9⟩ := mdI_s hI (c := 1 + (lw ((y >>> ((nI (2 * k)) &&& 31)) >>> ((nI 1) &&& 31)) 2)) (by omega) (by omega) (fun w => by omega)
              rw [e8]
              have i9 := ih18 (k + 1) _ false (by omega) (by omega) (by rw [show decide (1 + (lw ((y >>> ((nI (2 * k)) &&& 31)) >>> ((nI 1) &&& 31)) 2) = 27) = false from decide_eq_false (by omega)] at hI9; exact hI9)
              exact i9
            · skip
              omega
          · skip
            refine s_bipush C 75 (nI 28) dL_made_73 rfl (by decide) ?_
            refine s_goto C 88 dL_made_75 (by decide) ?_
            refine s_istore C 90 dL_made_88 rfl rfl rfl ?_
            dsimp only [List.set]
            refine s_iload C 92 dL_made_90 rfl rfl ?_
            refine s_bipush C 94 (nI 27) dL_made_92 rfl (by decide) ?_
            refine s_icmp_neN C 101 97 dL_made_94 (by decide) rfl (by omega) (by omega) (fun z94 => ?_) (fun z94 => ?_)
            · skip
              refine s_iconst C 102 (nI 0) dL_made_101 rfl (by decide) ?_
              refine s_istore C 104 dL_made_102 rfl rfl rfl ?_
              dsimp only [List.set]
              refine s_lload_n C 105 dL_made_104 rfl rfl ?_
              refine s_iload C 107 dL_made_105 rfl rfl ?_
              refine s_i2lN C 108 dL_made_107 rfl (by omega) ?_
              refine s_iconst C 109 (nI 5) dL_made_108 rfl (by decide) ?_
              refine s_iload C 111 dL_made_109 rfl rfl ?_
              refine s_imulN C 112 dL_made_111 rfl ?_
              refine s_lshlN C 113 dL_made_112 rfl (by omega) ?_
              refine s_lorN C 114 dL_made_113 rfl ?_
              refine s_lstore_n C 115 dL_made_114 rfl rfl rfl ?_
              dsimp only [List.set]
              refine s_iinc C 118 (nI (k + 1)) dL_made_115 rfl rfl (by rw [← nI_add]; rfl) rfl ?_
              dsimp only [List.set]
              refine s_goto C 18 dL_made_118 (by decide) ?_
              refine V.drop 7 ?_
              dsimp only [List.set]
              refine V.drop 8 ?_
              dsimp only [List.set]
              obtain ⟨e8, hI9⟩ := mdI_s hI (c := 28) (by omega) (by omega) (fun w => by omega)
              rw [e8]
              have i9 := ih18 (k + 1) _ false (by omega) (by omega) (by rw [show decide (28 = 27) = false from decide_eq_false (by omega)] at hI9; exact hI9)
              exact i9
            · skip
              omega
        · skip
          refine s_iload C 49 dL_made_47 rfl rfl ?_
          refine s_iconst C 50 (nI 4) dL_made_49 rfl (by decide) ?_
          refine s_invS C 53 0 0 [] dL_made_50 rfl m_L_70 (l_low (v := (y >>> ((nI (2 * k)) &&& 31))) (m := 4) (by decide) (by decide)) rfl rfl rfl ⟨by decide, by decide⟩ (Nat.le_of_ble_eq_true rfl) (by omega) (by omega) ?_
          rintro _ M11 ⟨rfl, rfl⟩
          dsimp only [Option.toList, List.cons_append, List.nil_append]
          have hlw_12 := lw_lt (v := (y >>> ((nI (2 * k)) &&& 31))) (m := 4) (by decide)
          refine s_if_neN C 61 56 dL_made_53 (by decide) rfl (by omega) (fun z53 => ?_) (fun z53 => ?_)
          · skip
            refine s_iload_n C 62 dL_made_61 rfl rfl ?_
            refine s_iload C 64 dL_made_62 rfl rfl ?_
            refine s_ishr C 65 dL_made_64 rfl ?_
            refine s_bipush C 67 (nI 9) dL_made_65 rfl (by decide) ?_
            refine s_invS C 70 0 0 [] dL_made_67 rfl m_L_70 (l_low (v := (x >>> ((nI k) &&& 31))) (m := 9) (by decide) (by decide)) rfl rfl rfl ⟨by decide, by decide⟩ (Nat.le_of_ble_eq_true rfl) (by omega) (by omega) ?_
            rintro _ M13 ⟨rfl, rfl⟩
            dsimp only [Option.toList, List.cons_append, List.nil_append]
            have hlw_14 := lw_lt (v := (x >>> ((nI k) &&& 31))) (m := 9) (by decide)
            refine s_if_neN C 78 73 dL_made_70 (by decide) rfl (by omega) (fun z70 => ?_) (fun z70 => ?_)
            · skip
              refine s_iconst C 79 (nI 1) dL_made_78 rfl (by decide) ?_
              refine s_iload C 81 dL_made_79 rfl rfl ?_
              refine s_iconst C 82 (nI 1) dL_made_81 rfl (by decide) ?_
              refine s_ishr C 83 dL_made_82 rfl ?_
              refine s_iconst C 84 (nI 2) dL_made_83 rfl (by decide) ?_
              refine s_invS C 87 0 0 [.int (nI 1)] dL_made_84 rfl m_L_70 (l_low (v := ((y >>> ((nI (2 * k)) &&& 31)) >>> ((nI 1) &&& 31))) (m := 2) (by decide) (by decide)) rfl rfl rfl ⟨by decide, by decide⟩ (Nat.le_of_ble_eq_true rfl) (by omega) (by omega) ?_
              rintro _ M15 ⟨rfl, rfl⟩
              dsimp only [Option.toList, List.cons_append, List.nil_append]
              have hlw_16 := lw_lt (v := ((y >>> ((nI (2 * k)) &&& 31)) >>> ((nI 1) &&& 31))) (m := 2) (by decide)
              refine s_iaddN C 88 dL_made_87 rfl ?_
              have hlw2 : (lw ((y >>> ((nI (2 * k)) &&& 31)) >>> ((nI 1) &&& 31)) 2) < 2 := lw_lt (by decide)
              refine s_istore C 90 dL_made_88 rfl rfl rfl ?_
              dsimp only [List.set]
              refine s_iload C 92 dL_made_90 rfl rfl ?_
              refine s_bipush C 94 (nI 27) dL_made_92 rfl (by decide) ?_
              refine s_icmp_neN C 101 97 dL_made_94 (by decide) rfl (by omega) (by omega) (fun z94 => ?_) (fun z94 => ?_)
              · skip
                refine s_iconst C 102 (nI 0) dL_made_101 rfl (by decide) ?_
                refine s_istore C 104 dL_made_102 rfl rfl rfl ?_
                dsimp only [List.set]
                refine s_lload_n C 105 dL_made_104 rfl rfl ?_
                refine s_iload C 107 dL_made_105 rfl rfl ?_
                refine s_i2lN C 108 dL_made_107 rfl (by omega) ?_
                refine s_iconst C 109 (nI 5) dL_made_108 rfl (by decide) ?_
                refine s_iload C 111 dL_made_109 rfl rfl ?_
                refine s_imulN C 112 dL_made_111 rfl ?_
                refine s_lshlN C 113 dL_made_112 rfl (by omega) ?_
                refine s_lorN C 114 dL_made_113 rfl ?_
                refine s_lstore_n C 115 dL_made_114 rfl rfl rfl ?_
                dsimp only [List.set]
                refine s_iinc C 118 (nI (k + 1)) dL_made_115 rfl rfl (by rw [← nI_add]; rfl) rfl ?_
                dsimp only [List.set]
                refine s_goto C 18 dL_made_118 (by decide) ?_
                refine V.drop 7 ?_
                dsimp only [List.set]
                refine V.drop 8 ?_
                dsimp only [List.set]
                obtain ⟨e8, hI9⟩ := mdI_s hI (c := 1 + (lw ((y >>> ((nI (2 * k)) &&& 31)) >>> ((nI 1) &&& 31)) 2)) (by omega) (by omega) (fun w => by omega)
                rw [e8]
                have i9 := ih18 (k + 1) _ false (by omega) (by omega) (by rw [show decide (1 + (lw ((y >>> ((nI (2 * k)) &&& 31)) >>> ((nI 1) &&& 31)) 2) = 27) = false from decide_eq_false (by omega)] at hI9; exact hI9)
                exact i9
              · skip
                omega
            · skip
              refine s_bipush C 75 (nI 28) dL_made_73 rfl (by decide) ?_
              refine s_goto C 88 dL_made_75 (by decide) ?_
              refine s_istore C 90 dL_made_88 rfl rfl rfl ?_
              dsimp only [List.set]
              refine s_iload C 92 dL_made_90 rfl rfl ?_
              refine s_bipush C 94 (nI 27) dL_made_92 rfl (by decide) ?_
              refine s_icmp_neN C 101 97 dL_made_94 (by decide) rfl (by omega) (by omega) (fun z94 => ?_) (fun z94 => ?_)
              · skip
                refine s_iconst C 102 (nI 0) dL_made_101 rfl (by decide) ?_
                refine s_istore C 104 dL_made_102 rfl rfl rfl ?_
                dsimp only [List.set]
                refine s_lload_n C 105 dL_made_104 rfl rfl ?_
                refine s_iload C 107 dL_made_105 rfl rfl ?_
                refine s_i2lN C 108 dL_made_107 rfl (by omega) ?_
                refine s_iconst C 109 (nI 5) dL_made_108 rfl (by decide) ?_
                refine s_iload C 111 dL_made_109 rfl rfl ?_
                refine s_imulN C 112 dL_made_111 rfl ?_
                refine s_lshlN C 113 dL_made_112 rfl (by omega) ?_
                refine s_lorN C 114 dL_made_113 rfl ?_
                refine s_lstore_n C 115 dL_made_114 rfl rfl rfl ?_
                dsimp only [List.set]
                refine s_iinc C 118 (nI (k + 1)) dL_made_115 rfl rfl (by rw [← nI_add]; rfl) rfl ?_
                dsimp only [List.set]
                refine s_goto C 18 dL_made_118 (by decide) ?_
                refine V.drop 7 ?_
                dsimp only [List.set]
                refine V.drop 8 ?_
                dsimp only [List.set]
                obtain ⟨e8, hI9⟩ := mdI_s hI (c := 28) (by omega) (by omega) (fun w => by omega)
                rw [e8]
                have i9 := ih18 (k + 1) _ false (by omega) (by omega) (by rw [show decide (28 = 27) = false from decide_eq_false (by omega)] at hI9; exact hI9)
                exact i9
              · skip
                omega
          · skip
            refine s_bipush C 58 (nI 27) dL_made_56 rfl (by decide) ?_
            refine s_goto C 88 dL_made_58 (by decide) ?_
            refine s_istore C 90 dL_made_88 rfl rfl rfl ?_
            dsimp only [List.set]
            refine s_iload C 92 dL_made_90 rfl rfl ?_
            refine s_bipush C 94 (nI 27) dL_made_92 rfl (by decide) ?_
            refine s_icmp_neN C 101 97 dL_made_94 (by decide) rfl (by omega) (by omega) (fun z94 => ?_) (fun z94 => ?_)
            · skip
              omega
            · skip
              refine s_iconst C 98 (nI 1) dL_made_97 rfl (by decide) ?_
              refine s_goto C 102 dL_made_98 (by decide) ?_
              refine s_istore C 104 dL_made_102 rfl rfl rfl ?_
              dsimp only [List.set]
              refine s_lload_n C 105 dL_made_104 rfl rfl ?_
              refine s_iload C 107 dL_made_105 rfl rfl ?_
              refine s_i2lN C 108 dL_made_107 rfl (by omega) ?_
              refine s_iconst C 109 (nI 5) dL_made_108 rfl (by decide) ?_
              refine s_iload C 111 dL_made_109 rfl rfl ?_
              refine s_imulN C 112 dL_made_111 rfl ?_
              refine s_lshlN C 113 dL_made_112 rfl (by omega) ?_
              refine s_lorN C 114 dL_made_113 rfl ?_
              refine s_lstore_n C 115 dL_made_114 rfl rfl rfl ?_
              dsimp only [List.set]
              refine s_iinc C 118 (nI (k + 1)) dL_made_115 rfl rfl (by rw [← nI_add]; rfl) rfl ?_
              dsimp only [List.set]
              refine s_goto C 18 dL_made_118 (by decide) ?_
              refine V.drop 7 ?_
              dsimp only [List.set]
              refine V.drop 8 ?_
              dsimp only [List.set]
              obtain ⟨e8, hI9⟩ := mdI_s hI (c := 27) (by omega) (by omega) (fun _ => ⟨z35, by omega⟩)
              rw [e8]
              have i9 := ih18 (k + 1) _ true (by omega) (by omega) (by rw [show decide (27 = 27) = true from decide_eq_true rfl] at hI9; exact hI9)
              exact i9
