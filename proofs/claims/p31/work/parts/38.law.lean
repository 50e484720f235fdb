set_option maxRecDepth 100000 in
set_option maxHeartbeats 40000000 in
theorem law_walk {X : mX} {G : mG} (C : Cx X G iL_law) {b : Nat} (hX : lawX X G b) {M : mM} {g0 : Nat → Option Nat} (hE0 : M G.2.2.2.2.2.2.1 = some (0, .inr (2, 0, .inr g0))) : V X 906490 6382777 0 [some (.ref (G.2.2.2.2.1 0)), none, none, none, none, none, none, none, none, none, none, none, none, none, none, none, none] [] M := by
  refine s_newU C 3 906480 6382770 6 dL_law_0 rfl n_L_46 (by first | decide | omega) (by omega) (by first | omega | (show _ + _ ≤ _; simp only [List.length_cons, List.length_nil]; omega)) (fun z M1 hnz U2 => ?_)
  have hE0 := U2.n hnz hE0
  have hZ := U2.s
  refine s_dup C 4 dL_law_3 rfl rfl ?_
  refine s_invI C 7 906400 6381600 [.ref z] dL_law_4 rfl m_L_110 (z_init (hs := fun _ => st0) hZ hE0) rfl rfl rfl ⟨by decide, by decide⟩ (Nat.le_of_ble_eq_true rfl) (by omega) (by omega) ?_
  rintro _ M3 ⟨rfl, hz, hF1⟩
  dsimp only [Option.toList, List.cons_append, List.nil_append]
  refine s_astore_n C 8 dL_law_7 rfl rfl rfl ?_
  dsimp only [List.set]
  refine s_bipush C 10 (nI 9) dL_law_8 rfl (by decide) ?_
  refine s_newaU C 12 906300 6381500 300 dL_law_10 rfl (Or.inl ⟨rfl, rfl, ac_int⟩) (by omega) (by first | decide | omega) (by omega) (by omega) (fun qa M4 hnqa U5 => ?_)
  have hz := zR_new hz U5 hnqa
  have hQ := U5.s
  refine s_astore_n C 13 dL_law_12 rfl rfl rfl ?_
  dsimp only [List.set]
  refine s_bipush C 15 (nI 7) dL_law_13 rfl (by decide) ?_
  refine s_newLU C 17 906200 6381400 301 dL_law_15 rfl ac_long (by omega) (by first | decide | omega) (by omega) (by omega) (fun aa M6 hnaa U7 => ?_)
  have hz := zR_new hz U7 hnaa
  have hQ := U7.n hnaa hQ
  have hA := U7.s
  refine s_astore_n C 18 dL_law_17 rfl rfl rfl ?_
  dsimp only [List.set]
  refine s_lconst C 19 (lN 0) dL_law_18 rfl rfl ?_
  refine s_lstore C 21 dL_law_19 rfl rfl rfl ?_
  dsimp only [List.set]
  have hI0 : lwI G M6 z qa aa 0 0 0 0 (fun _ => 0) (fun _ => 0) := ⟨⟨fun _ => 0, fun _ => 0, fun _ _ => 0, fun _ => 0, 0, fun _ => st0, fun _ => 0, (by rw [gn_0.2]; exact hz), (fun t ht => by omega), (fun t ht => by omega), (fun k hk => by rw [gn_0.2] at hk; omega)⟩, hQ, hA, rfl, rfl, rfl, by omega, by omega, by omega, fun i hi => by omega, fun i j hi => by omega, gQ_0⟩
  refine V.widen (bc' := 40 * (26 - 0)) (bs' := 852 * (26 - 0)) (by omega) (by omega) ?_
  refine s_iconst C 22 (nI 0) dL_law_21 rfl (by decide) ?_
  refine s_istore C 24 dL_law_22 rfl rfl rfl ?_
  dsimp only [List.set]
  skip
  suffices lp24 : ∀ (fu24 : Nat) (n T mo od q : Nat) (Q : Nat → Int32) (al : Nat → Nat) (M9 : mM), 26 - n < fu24 → n ≤ 26 → lwI G M9 z qa aa T mo od q Q al → V X (40 * (26 - n)) (852 * (26 - n)) 24 [some (.ref (G.2.2.2.2.1 0)), some (.ref z), some (.ref qa), some (.ref aa), some (.long (lN q)), none, some (.int (nI n)), none, none, none, none, none, none, none, none, none, none] [] M9 from lp24 27 0 0 0 0 0 (fun _ => 0) (fun _ => 0) _ (by omega) (by omega) hI0
  intro fu24
  induction fu24 with
  | zero => intro n T mo od q Q al M9 hn0 hn hI; omega
  | succ fu24 ih24 =>
    intro n T mo od q Q al M9 hn0 hn hI
    have hI9 := hI
    obtain ⟨⟨q9, ln, fl, us, c, hs, tg, hz, R1, R2, R3⟩, hQ, hA, hQ0, hQ1, hQ2, hT6, hm, ho, hg, hne, hq⟩ := hI
    have hq12 := tS_le (t := q)
    have hq9 := hq.2.2.1
    have hp := Nat.two_pow_pos (5 * tS q - 5)
    have hqA := tA_lt (t := q) (k := tS q - 1)
    refine s_iload C 26 dL_law_24 rfl rfl ?_
    refine s_bipush C 28 (nI 26) dL_law_26 rfl (by decide) ?_
    refine s_icmp_geN C 930 31 dL_law_28 (by decide) rfl (by omega) (by omega) (fun z28 => ?_) (fun z28 => ?_)
    · skip
      refine s_iconst C 931 (nI 1) dL_law_930 rfl (by decide) ?_
      exact s_lawret C hX dL_law_931
    · skip
      have hn26 : n < 26 := by omega
      have j907 : ∀ (y : Int32) (T mo od q : Nat) (Q : Nat → Int32) (al : Nat → Nat) (M7 : mM), lwI G M7 z qa aa T mo od q Q al → V X (40 * (26 - (n + 1))) (852 * (26 - (n + 1))) 907 [some (.ref (G.2.2.2.2.1 0)), some (.ref z), some (.ref qa), some (.ref aa), some (.long (lN q)), none, some (.int (nI n)), none, some (.int y), none, none, none, none, none, none, none, none] [] M7 := by
        clear hz hQ hA hQ0 hQ1 hQ2 hT6 hm ho hg hne hq R1 R2 R3 hI9
        intro y T mo od q Q al M7 hI
        obtain ⟨⟨q9, ln, fl, us, c, hs, tg, hz, R1, R2, R3⟩, hQ, hA, hQ0, hQ1, hQ2, hT6, hm, ho, hg, hne, hq⟩ := hI
        have hok := okX_of hT6 hm ho hg hne
        refine s_aload_n C 908 dL_law_907 rfl rfl ?_
        refine s_iload C 910 dL_law_908 rfl rfl ?_
        refine s_iconst C 911 (nI 3) dL_law_910 rfl (by decide) ?_
        refine s_ishr C 912 dL_law_911 rfl ?_
        refine s_lload C 914 dL_law_912 rfl rfl ?_
        refine s_aload_n C 915 dL_law_914 rfl rfl ?_
        refine s_aload_n C 916 dL_law_915 rfl rfl ?_
        refine s_invS C 919 (40 * (26 - (n + 1))) (852 * (26 - (n + 1))) [] dL_law_916 rfl m_L_149 (l_same hQ hA hQ1 hQ2 hm ho hQ0 hT6 hg hz R1 R2 R3 hne hok hq) rfl rfl rfl ⟨by decide, by decide⟩ (Nat.le_of_ble_eq_true rfl) (by omega) (by omega) ?_
        rintro _ M8 ⟨rfl, hz, hF1⟩
        dsimp only [Option.toList, List.cons_append, List.nil_append]
        have hI9 : lwI G M8 z qa aa T mo od q Q al := ⟨⟨_, _, _, _, _, _, _, hz, R1, R2, R3⟩, hF1.at hQ (by decide), hF1.at hA (by decide), hQ0, hQ1, hQ2, hT6, hm, ho, hg, hne, hq⟩
        refine s_if_neN C 924 922 dL_law_919 (by decide) rfl (by omega) (fun z919 => ?_) (fun z919 => ?_)
        · skip
          refine V.drop 8 ?_
          dsimp only [List.set]
          refine s_iinc C 927 (nI (n + 1)) dL_law_924 rfl rfl (by rw [← nI_add]; rfl) rfl ?_
          dsimp only [List.set]
          refine s_goto C 24 dL_law_927 (by decide) ?_
          exact ih24 (n + 1) T mo od q Q al _ (by omega) (by omega) hI9
        · skip
          omega
      refine s_aload_n C 32 dL_law_31 rfl rfl ?_
      refine s_iconst C 33 (nI 2) dL_law_32 rfl (by decide) ?_
      refine s_iload C 35 dL_law_33 rfl rfl ?_
      refine s_imulN C 36 dL_law_35 rfl ?_
      refine s_invS C 39 (40 * (26 - n)) (852 * (26 - n)) [] dL_law_36 rfl m_L_111 (l_cell (k := 2 * n) (by omega)) rfl rfl rfl ⟨by decide, by decide⟩ (Nat.le_of_ble_eq_true rfl) (by omega) (by omega) ?_
      rintro _ M10 ⟨⟨w9, rfl⟩, rfl⟩
      dsimp only [Option.toList, List.cons_append, List.nil_append]
      refine s_istore C 41 dL_law_39 rfl rfl rfl ?_
      dsimp only [List.set]
      refine s_aload_n C 42 dL_law_41 rfl rfl ?_
      refine s_iconst C 43 (nI 2) dL_law_42 rfl (by decide) ?_
      refine s_iload C 45 dL_law_43 rfl rfl ?_
      refine s_imulN C 46 dL_law_45 rfl ?_
      refine s_iconst C 47 (nI 1) dL_law_46 rfl (by decide) ?_
      refine s_iaddN C 48 dL_law_47 rfl ?_
      refine s_invS C 51 (40 * (26 - n)) (852 * (26 - n)) [] dL_law_48 rfl m_L_111 (l_cell (k := (2 * n) + 1) (by omega)) rfl rfl rfl ⟨by decide, by decide⟩ (Nat.le_of_ble_eq_true rfl) (by omega) (by omega) ?_
      rintro _ M12 ⟨⟨w11, rfl⟩, rfl⟩
      dsimp only [Option.toList, List.cons_append, List.nil_append]
      refine s_istore C 53 dL_law_51 rfl rfl rfl ?_
      dsimp only [List.set]
      have j72 : ∀ (kd : Nat), kd < 12 → V X (40 * (26 - n)) (852 * (26 - n)) 72 [some (.ref (G.2.2.2.2.1 0)), some (.ref z), some (.ref qa), some (.ref aa), some (.long (lN q)), none, some (.int (nI n)), some (.int w9), some (.int w11), some (.int (nI kd)), none, none, none, none, none, none, none] [] M9 := by
        intro kd hkd
        refine s_lload C 74 dL_law_72 rfl rfl ?_
        refine s_invS C 77 (40 * (26 - n)) (852 * (26 - n)) [] dL_law_74 rfl m_L_18 (l_size (t := q) (by first | exact hq.1.lt | exact hnt.g.lt)) rfl rfl rfl ⟨by decide, by decide⟩ (Nat.le_of_ble_eq_true rfl) (by omega) (by omega) ?_
        rintro _ M13 ⟨rfl, rfl⟩
        dsimp only [Option.toList, List.cons_append, List.nil_append]
        refine s_istore C 79 dL_law_77 rfl rfl rfl ?_
        dsimp only [List.set]
        refine s_iload C 81 dL_law_79 rfl rfl ?_
        refine s_iconst C 82 (nI 3) dL_law_81 rfl (by decide) ?_
        refine s_icmp_geN C 354 85 dL_law_82 (by decide) rfl (by omega) (by omega) (fun z82 => ?_) (fun z82 => ?_)
        · skip
          refine s_iload C 356 dL_law_354 rfl rfl ?_
          refine s_iconst C 357 (nI 3) dL_law_356 rfl (by decide) ?_
          refine s_icmp_neN C 468 360 dL_law_357 (by decide) rfl (by omega) (by omega) (fun z357 => ?_) (fun z357 => ?_)
          · skip
            refine s_iload C 470 dL_law_468 rfl rfl ?_
            refine s_iconst C 471 (nI 4) dL_law_470 rfl (by decide) ?_
            refine s_icmp_neN C 504 474 dL_law_471 (by decide) rfl (by omega) (by omega) (fun z471 => ?_) (fun z471 => ?_)
            · skip
              refine s_iload C 506 dL_law_504 rfl rfl ?_
              refine s_iconst C 507 (nI 5) dL_law_506 rfl (by decide) ?_
              refine s_icmp_neN C 540 510 dL_law_507 (by decide) rfl (by omega) (by omega) (fun z507 => ?_) (fun z507 => ?_)
              · skip
                refine s_iload C 542 dL_law_540 rfl rfl ?_
                refine s_bipush C 544 (nI 9) dL_law_542 rfl (by decide) ?_
                refine s_icmp_geN C 732 547 dL_law_544 (by decide) rfl (by omega) (by omega) (fun z544 => ?_) (fun z544 => ?_)
                · skip
                  refine s_iload C 734 dL_law_732 rfl rfl ?_
                  refine s_bipush C 736 (nI 9) dL_law_734 rfl (by decide) ?_
                  refine s_icmp_neN C 848 739 dL_law_736 (by decide) rfl (by omega) (by omega) (fun z736 => ?_) (fun z736 => ?_)
                  · skip
                    refine s_iload C 850 dL_law_848 rfl rfl ?_
                    refine s_iconst C 851 (nI 3) dL_law_850 rfl (by decide) ?_
                    refine s_invS C 854 (40 * (26 - n)) (852 * (26 - n)) [] dL_law_851 rfl m_L_70 (l_low (v := w11) (m := 3) (by decide) (by decide)) rfl rfl rfl ⟨by decide, by decide⟩ (Nat.le_of_ble_eq_true rfl) (by omega) (by omega) ?_
                    rintro _ M14 ⟨rfl, rfl⟩
                    dsimp only [Option.toList, List.cons_append, List.nil_append]
                    have hlw_15 := lw_lt (v := w11) (m := 3) (by decide)
                    refine s_istore C 856 dL_law_854 rfl rfl rfl ?_
                    dsimp only [List.set]
                    refine s_iload C 858 dL_law_856 rfl rfl ?_
                    refine s_lload C 860 dL_law_858 rfl rfl ?_
                    refine s_aload_n C 861 dL_law_860 rfl rfl ?_
                    refine s_aload_n C 862 dL_law_861 rfl rfl ?_
                    have hok := okX_of hT6 hm ho hg hne
                    refine s_invS C 865 (40 * (26 - n)) (852 * (26 - n)) [] dL_law_862 rfl m_L_75 (l_ranked hQ hA hQ1 hQ2 hm ho hQ0 hT6 hg hne hok (rank := lw w11 3) (by omega) hq) rfl rfl rfl ⟨by decide, by decide⟩ (Nat.le_of_ble_eq_true rfl) (by omega) (by omega) ?_
                    rintro _ M16 ⟨rfl, rfl⟩
                    dsimp only [Option.toList, List.cons_append, List.nil_append]
                    have hrk := rkN_T (T := T) (mo := mo) (od := od) (ql := tS q) (q := tF q) (ln := (lLn al)) (fl := (lFl al)) (us := (lUs Q))
                    by_cases hr : lw w11 3 < (rkN T mo od (tS q) (tF q) (lLn al) (lFl al) (lUs Q) T).1
                    · skip
                      have hrt := (hrk.2 _ hr).1
                      rw [if_pos hr]
                      refine s_istore C 867 dL_law_865 rfl rfl rfl ?_
                      dsimp only [List.set]
                      refine s_aload_n C 868 dL_law_867 rfl rfl ?_
                      refine s_iload C 870 dL_law_868 rfl rfl ?_
                      refine s_invV C 873 (40 * (26 - n) - 40) (852 * (26 - n) - 852) [] (zR_rv hz) dL_law_870 rfl m_L_146 (z_pick hz) rfl rfl rfl ⟨by decide, by decide⟩ (Nat.le_of_ble_eq_true rfl) (by omega) (by omega) ?_
                      rintro _ M17 ⟨rfl, hz, hF1⟩
                      dsimp only [Option.toList, List.cons_append, List.nil_append]
                      have hQ := hF1.at hQ TZ_q
                      have hA := hF1.at hA TZ_a
                      rw [rs_v R1 R2 R3 (show lw w11 3 < 1000 by omega) hT6, if_pos hr]
                      rw [rkN_c R1 R2 R3] at hz
                      simp only [if_pos (isIx_n hr (by omega)), nI_clamp (show lw w11 3 < 2 ^ 31 by omega)] at hz
                      refine s_iload C 875 dL_law_873 rfl rfl ?_
                      refine s_if_geN C 882 dL_law_875 (by decide) (by omega) ?_
                      refine s_iload C 884 dL_law_882 rfl rfl ?_
                      refine s_icmp_eqN C 889 887 dL_law_884 (by decide) rfl (by omega) (by omega) (fun z884 => ?_) (fun z884 => ?_)
                      · skip
                        refine s_iload C 891 dL_law_889 rfl rfl ?_
                        refine s_if_ltN C 894 (t := 907) dL_law_891 (by decide) rfl (by omega) ?_
                        refine s_aload_n C 895 dL_law_894 rfl rfl ?_
                        refine s_iconst C 896 (nI 3) dL_law_895 rfl (by decide) ?_
                        refine s_iload C 898 dL_law_896 rfl rfl ?_
                        refine s_iaddN C 899 dL_law_898 rfl ?_
                        refine s_dup2 C 900 dL_law_899 rfl rfl rfl ?_
                        refine s_iald C 901 dL_law_900 rfl hQ (by omega) (by omega) ?_
                        refine s_iconst C 902 (nI 1) dL_law_901 rfl (by decide) ?_
                        refine s_iadd C 903 dL_law_902 rfl ?_
                        refine s_iastU C 904 dL_law_903 rfl hQ (by first | decide | omega) (by omega) (by omega) (fun M18 U19 => ?_)
                        have hz := zR_put hz U19 hQ (by decide)
                        have hA := U19.o hQ hA (by first | decide | omega)
                        have hQ := U19.s
                        have hI7 : lwI G M18 z qa aa T mo od 0 _ _ := ⟨⟨q9, ln, fl, adF us ((rkN T mo od (tS q) (tF q) (lLn al) (lFl al) (lUs Q) T).2 (lw w11 3)) (us ((rkN T mo od (tS q) (tF q) (lLn al) (lFl al) (lUs Q) T).2 (lw w11 3)) + nI 1), _, _, tg, (by rw [gn_0.2]; exact hz), R1, (fun i hi => by show adF us ((rkN T mo od (tS q) (tF q) (lLn al) (lFl al) (lUs Q) T).2 (lw w11 3)) (us ((rkN T mo od (tS q) (tF q) (lLn al) (lFl al) (lUs Q) T).2 (lw w11 3)) + nI 1) i = upd Q (3 + (rkN T mo od (tS q) (tF q) (lLn al) (lFl al) (lUs Q) T).2 (lw w11 3)) (Q (3 + (rkN T mo od (tS q) (tF q) (lLn al) (lFl al) (lUs Q) T).2 (lw w11 3)) + nI 1) (3 + i); unfold adF upd; by_cases e : i = (rkN T mo od (tS q) (tF q) (lLn al) (lFl al) (lUs Q) T).2 (lw w11 3); (· rw [if_pos e, if_pos (by omega), R2 _ hrt]); rw [if_neg e, if_neg (by omega)]; exact R2 i hi), (fun k hk => by rw [gn_0.2] at hk; omega)⟩, hQ, hA, (by rw [pk_un (by omega)]; exact hQ0), (by rw [pk_un (by omega)]; exact hQ1), (by rw [pk_un (by omega)]; exact hQ2), hT6, hm, ho, hg, hne, gQ_0⟩
                        refine s_lconst C 905 (lN 0) dL_law_904 rfl rfl ?_
                        refine s_lstore C 907 dL_law_905 rfl rfl rfl ?_
                        dsimp only [List.set]
                        refine V.drop 7 ?_
                        dsimp only [List.set]
                        refine V.drop 9 ?_
                        dsimp only [List.set]
                        refine V.drop 10 ?_
                        dsimp only [List.set]
                        refine V.drop 11 ?_
                        dsimp only [List.set]
                        refine V.drop 12 ?_
                        dsimp only [List.set]
                        refine V.widen (bc' := 40 * (26 - (n + 1))) (bs' := 852 * (26 - (n + 1))) (by omega) (by omega) ?_
                        exact j907 _ _ _ _ _ _ _ _ hI7
                      · skip
                        exact absurd rfl z884
                    · skip
                      rw [if_neg hr]
                      refine s_istore C 867 dL_law_865 rfl rfl rfl ?_
                      dsimp only [List.set]
                      refine s_aload_n C 868 dL_law_867 rfl rfl ?_
                      refine s_iload C 870 dL_law_868 rfl rfl ?_
                      refine s_invV C 873 (40 * (26 - n) - 40) (852 * (26 - n) - 852) [] (zR_rv hz) dL_law_870 rfl m_L_146 (z_pick hz) rfl rfl rfl ⟨by decide, by decide⟩ (Nat.le_of_ble_eq_true rfl) (by omega) (by omega) ?_
                      rintro _ M20 ⟨rfl, hz, hF1⟩
                      dsimp only [Option.toList, List.cons_append, List.nil_append]
                      have hQ := hF1.at hQ TZ_q
                      have hA := hF1.at hA TZ_a
                      rw [rs_v R1 R2 R3 (show lw w11 3 < 1000 by omega) hT6, if_neg hr]
                      rw [rkN_c R1 R2 R3] at hz
                      simp only [if_neg (show ¬ isIx (nI (lw w11 3)) (rkN T mo od (tS q) (tF q) (lLn al) (lFl al) (lUs Q) T).1 = true by rw [isIx_no (by omega) (by omega)]; decide)] at hz
                      refine s_iload C 875 dL_law_873 rfl rfl ?_
                      refine s_if_ge C 882 878 dL_law_875 (by decide) rfl (fun z875 => ?_) (fun z875 => ?_)
                      · skip
                        exact absurd z875 (by decide)
                      · skip
                        refine s_iconst C 879 (-1) dL_law_878 rfl (by decide) ?_
                        refine s_goto C 884 dL_law_879 (by decide) ?_
                        refine s_icmp_eq C 889 887 dL_law_884 (by decide) rfl (fun z884 => ?_) (fun z884 => ?_)
                        · skip
                          refine s_iload C 891 dL_law_889 rfl rfl ?_
                          refine s_if_lt C 907 894 dL_law_891 (by decide) rfl (fun z891 => ?_) (fun z891 => ?_)
                          · skip
                            have hI7 : lwI G M20 z qa aa T mo od q _ _ := ⟨⟨_, _, _, _, _, _, _, hz, R1, R2, R3⟩, hQ, hA, hQ0, hQ1, hQ2, hT6, hm, ho, hg, hne, hq⟩
                            refine V.drop 7 ?_
                            dsimp only [List.set]
                            refine V.drop 9 ?_
                            dsimp only [List.set]
                            refine V.drop 10 ?_
                            dsimp only [List.set]
                            refine V.drop 11 ?_
                            dsimp only [List.set]
                            refine V.drop 12 ?_
                            dsimp only [List.set]
                            refine V.widen (bc' := 40 * (26 - (n + 1))) (bs' := 852 * (26 - (n + 1))) (by omega) (by omega) ?_
                            exact j907 _ _ _ _ _ _ _ _ hI7
                          · skip
                            exact absurd (by decide) z891
                        · skip
                          exact absurd rfl z884
                  · skip
                    refine s_iload C 741 dL_law_739 rfl rfl ?_
                    refine s_if_leN C 748 744 dL_law_741 (by decide) rfl (by omega) (fun z741 => ?_) (fun z741 => ?_)
                    · skip
                      refine s_iconst C 749 (nI 0) dL_law_748 rfl (by decide) ?_
                      refine s_istore C 751 dL_law_749 rfl rfl rfl ?_
                      dsimp only [List.set]
                      refine s_iload C 753 dL_law_751 rfl rfl ?_
                      refine s_if_eqN C 772 756 dL_law_753 (by decide) rfl (by omega) (fun z753 => ?_) (fun z753 => ?_)
                      · skip
                        refine s_lload C 774 dL_law_772 rfl rfl ?_
                        have hq7 := hq
                        refine s_lstore C 776 dL_law_774 rfl rfl rfl ?_
                        dsimp only [List.set]
                        refine s_iconst C 777 (nI 0) dL_law_776 rfl (by decide) ?_
                        refine s_istore C 779 dL_law_777 rfl rfl rfl ?_
                        dsimp only [List.set]
                        refine s_iconst C 780 (nI 0) dL_law_779 rfl (by decide) ?_
                        refine s_istore C 782 dL_law_780 rfl rfl rfl ?_
                        dsimp only [List.set]
                        suffices lp782 : ∀ (fu782 : Nat) (k : Nat), T - k < fu782 → k ≤ T → V X (40 * (26 - n)) (852 * (26 - n)) 782 [some (.ref (G.2.2.2.2.1 0)), some (.ref z), some (.ref qa), some (.ref aa), some (.long (lN q)), none, some (.int (nI n)), some (.int w9), some (.int w11), some (.int (nI kd)), some (.int (nI (tS q))), some (.int (nI 0)), some (.int (nI (cntP (fun w => (pmO mo (tS q) (tF q) ((lLn al) w) ((lFl al) w)).isSome) k))), some (.int (nI k)), none, none, none] [] M9 from lp782 (T + 1) 0 (by omega) (by omega)
                        intro fu782
                        induction fu782 with
                        | zero => intro k hk0 hk; omega
                        | succ fu782 ih782 =>
                          intro k hk0 hk
                          have hcn := cntP_le (P := fun w => (pmO mo (tS q) (tF q) ((lLn al) w) ((lFl al) w)).isSome) k
                          refine s_iload C 784 dL_law_782 rfl rfl ?_
                          refine s_aload_n C 785 dL_law_784 rfl rfl ?_
                          refine s_iconst C 786 (nI 0) dL_law_785 rfl (by decide) ?_
                          refine s_iald C 787 dL_law_786 rfl hQ (by omega) (by omega) ?_
                          rw [hQ0]
                          refine s_icmp_geN C 824 790 dL_law_787 (by decide) rfl (by omega) (by omega) (fun z787 => ?_) (fun z787 => ?_)
                          · skip
                            have hkT : k = T := by omega
                            rw [hkT, rk_num (T := T) (mo := mo) (od := od) (ql := tS q) (q := tF q) (ln := (lLn al)) (fl := (lFl al)) (us := (lUs Q))]
                            have hrT := (rkN_T (T := T) (mo := mo) (od := od) (ql := tS q) (q := tF q) (ln := (lLn al)) (fl := (lFl al)) (us := (lUs Q))).1
                            refine s_aload_n C 825 dL_law_824 rfl rfl ?_
                            refine s_invV C 828 (40 * (26 - n) - 40) (852 * (26 - n) - 852) [] (zR_rv hz) dL_law_825 rfl m_L_143 (z_erase hz) rfl rfl rfl ⟨by decide, by decide⟩ (Nat.le_of_ble_eq_true rfl) (by omega) (by omega) ?_
                            rintro _ M21 ⟨rfl, hz, hF1⟩
                            dsimp only [Option.toList, List.cons_append, List.nil_append]
                            have hQ := hF1.at hQ TZ_q
                            have hA := hF1.at hA TZ_a
                            rw [if_neg (show ¬ 0 < tS q by omega)]
                            simp only [if_neg (show ¬ 0 < tS q by omega)] at hz
                            refine s_iload C 830 dL_law_828 rfl rfl ?_
                            refine s_if_eqN C 838 833 dL_law_830 (by decide) rfl (by omega) (fun z830 => ?_) (fun z830 => ?_)
                            · skip
                              refine s_bipush C 840 (-3) dL_law_838 rfl (by decide) ?_
                              refine s_icmp_eq C 845 843 dL_law_840 (by decide) rfl (fun z840 => ?_) (fun z840 => ?_)
                              · skip
                                have hI7 : lwI G M21 z qa aa T mo od (q) _ _ := ⟨⟨_, _, _, _, _, _, _, hz, R1, R2, R3⟩, hQ, hA, hQ0, hQ1, hQ2, hT6, hm, ho, hg, hne, hq7⟩
                                refine s_goto C 907 dL_law_845 (by decide) ?_
                                refine V.drop 7 ?_
                                dsimp only [List.set]
                                refine V.drop 9 ?_
                                dsimp only [List.set]
                                refine V.drop 10 ?_
                                dsimp only [List.set]
                                refine V.drop 11 ?_
                                dsimp only [List.set]
                                refine V.drop 12 ?_
                                dsimp only [List.set]
                                refine V.drop 13 ?_
                                dsimp only [List.set]
                                refine V.widen (bc' := 40 * (26 - (n + 1))) (bs' := 852 * (26 - (n + 1))) (by omega) (by omega) ?_
                                exact j907 _ _ _ _ _ _ _ _ hI7
                              · skip
                                exact absurd rfl z840
                            · skip
                              omega
                          · skip
                            refine s_iload C 792 dL_law_790 rfl rfl ?_
                            refine s_aload_n C 793 dL_law_792 rfl rfl ?_
                            refine s_iload C 795 dL_law_793 rfl rfl ?_
                            refine s_laldN C 796 dL_law_795 rfl hA (by omega) (by omega) ?_
                            refine s_lload C 798 dL_law_796 rfl rfl ?_
                            refine s_invS C 801 (40 * (26 - n)) (852 * (26 - n)) [.long (lN (al k)), .int (nI (cntP (fun w => (pmO mo (tS q) (tF q) ((lLn al) w) ((lFl al) w)).isSome) k))] dL_law_798 rfl m_L_48 (l_cut hq7.1.lt) rfl rfl rfl ⟨by decide, by decide⟩ (Nat.le_of_ble_eq_true rfl) (by omega) (by omega) ?_
                            rintro _ M22 ⟨rfl, rfl⟩
                            dsimp only [Option.toList, List.cons_append, List.nil_append]
                            refine s_aload_n C 802 dL_law_801 rfl rfl ?_
                            refine s_iconst C 803 (nI 1) dL_law_802 rfl (by decide) ?_
                            refine s_iald C 804 dL_law_803 rfl hQ (by omega) (by omega) ?_
                            rw [hQ1]
                            have hgk := hg k (by omega)
                            have hck : plT (al k) (tCut q) mo = pmO mo (tS q) (tF q) ((lLn al) k) ((lFl al) k) := plT_cut hq7
                            have h26 : ∀ j, pmO mo (tS q) (tF q) ((lLn al) k) ((lFl al) k) = some j → j < 26 := fun j hj => plT_26 hgk (hck.trans hj)
                            have hck9 := tCut_ok hq7
                            refine s_invS C 807 (40 * (26 - n)) (852 * (26 - n)) [.int (nI (cntP (fun w => (pmO mo (tS q) (tF q) ((lLn al) w) ((lFl al) w)).isSome) k))] dL_law_804 rfl m_L_38 (l_place hgk hm hck9.1.lt hck9.2.1) rfl rfl rfl ⟨by decide, by decide⟩ (Nat.le_of_ble_eq_true rfl) (by omega) (by omega) ?_
                            rintro _ M23 ⟨rfl, rfl⟩
                            dsimp only [Option.toList, List.cons_append, List.nil_append]
                            rw [hck]
                            refine s_if_ge C 814 810 dL_law_807 (by decide) rfl (fun z807 => ?_) (fun z807 => ?_)
                            · skip
                              obtain ⟨pk, hpk⟩ := oN_s ((oJ_ge h26).mp z807)
                              have hsk : (pmO mo (tS q) (tF q) ((lLn al) k) ((lFl al) k)).isSome = true := by rw [hpk]; rfl
                              refine s_iconst C 815 (nI 1) dL_law_814 rfl (by decide) ?_
                              refine s_iaddN C 816 dL_law_815 rfl ?_
                              refine s_istore C 818 dL_law_816 rfl rfl rfl ?_
                              dsimp only [List.set]
                              refine s_iinc C 821 (nI (k + 1)) dL_law_818 rfl rfl (by rw [← nI_add]; rfl) rfl ?_
                              dsimp only [List.set]
                              refine s_goto C 782 dL_law_821 (by decide) ?_
                              have e9 : cntP (fun w => (pmO mo (tS q) (tF q) ((lLn al) w) ((lFl al) w)).isSome) (k + 1) = cntP (fun w => (pmO mo (tS q) (tF q) ((lLn al) w) ((lFl al) w)).isSome) k + 1 := by rw [cntP, if_pos hsk]
                              have i9 := ih782 (k + 1) (by omega) (by omega)
                              rw [e9] at i9
                              exact i9
                            · skip
                              have hnk : (pmO mo (tS q) (tF q) ((lLn al) k) ((lFl al) k)).isSome = false := by cases e : pmO mo (tS q) (tF q) ((lLn al) k) ((lFl al) k) with | none => rfl | some j => exact absurd ((oJ_ge h26).mpr (by rw [e]; exact fun w => by cases w)) z807
                              refine s_iconst C 811 (nI 0) dL_law_810 rfl (by decide) ?_
                              refine s_goto C 815 dL_law_811 (by decide) ?_
                              refine s_iaddN C 816 dL_law_815 rfl ?_
                              refine s_istore C 818 dL_law_816 rfl rfl rfl ?_
                              dsimp only [List.set]
                              refine s_iinc C 821 (nI (k + 1)) dL_law_818 rfl rfl (by rw [← nI_add]; rfl) rfl ?_
                              dsimp only [List.set]
                              refine s_goto C 782 dL_law_821 (by decide) ?_
                              have e9 : cntP (fun w => (pmO mo (tS q) (tF q) ((lLn al) w) ((lFl al) w)).isSome) (k + 1) = cntP (fun w => (pmO mo (tS q) (tF q) ((lLn al) w) ((lFl al) w)).isSome) k + 0 := by rw [cntP, if_neg (by rw [hnk]; decide)]
                              have i9 := ih782 (k + 1) (by omega) (by omega)
                              rw [e9] at i9
                              exact i9
                      · skip
                        omega
                    · skip
                      refine s_iconst C 745 (nI 1) dL_law_744 rfl (by decide) ?_
                      refine s_goto C 749 dL_law_745 (by decide) ?_
                      refine s_istore C 751 dL_law_749 rfl rfl rfl ?_
                      dsimp only [List.set]
                      refine s_iload C 753 dL_law_751 rfl rfl ?_
                      refine s_if_eqN C 772 756 dL_law_753 (by decide) rfl (by omega) (fun z753 => ?_) (fun z753 => ?_)
                      · skip
                        omega
                      · skip
                        refine s_lload C 758 dL_law_756 rfl rfl ?_
                        refine s_lconst C 759 (lN 1) dL_law_758 rfl rfl ?_
                        refine s_iconst C 760 (nI 5) dL_law_759 rfl (by decide) ?_
                        refine s_iload C 762 dL_law_760 rfl rfl ?_
                        refine s_imulN C 763 dL_law_762 rfl ?_
                        refine s_iconst C 764 (nI 5) dL_law_763 rfl (by decide) ?_
                        refine s_isubN C 765 dL_law_764 rfl (by omega) ?_
                        refine s_lshlN C 766 dL_law_765 rfl (by omega) ?_
                        refine s_lconst C 767 (lN 1) dL_law_766 rfl rfl ?_
                        refine s_lsubN C 768 dL_law_767 rfl (by omega) ?_
                        refine s_landN C 769 dL_law_768 rfl ?_
                        refine s_goto C 774 dL_law_769 (by decide) ?_
                        rw [Nat.one_mul, Nat.and_two_pow_sub_one_eq_mod, show 5 * tS q - 5 = 5 * (tS q - 1) by omega]
                        obtain ⟨hq7, hs7, hd7⟩ := gQ_mod hq (show tS q - 1 ≤ tS q by omega)
                        generalize hq7e : q % 2 ^ (5 * (tS q - 1)) = q7 at hq7 hs7 hd7 ⊢
                        refine s_lstore C 776 dL_law_774 rfl rfl rfl ?_
                        dsimp only [List.set]
                        refine s_iconst C 777 (nI 0) dL_law_776 rfl (by decide) ?_
                        refine s_istore C 779 dL_law_777 rfl rfl rfl ?_
                        dsimp only [List.set]
                        refine s_iconst C 780 (nI 0) dL_law_779 rfl (by decide) ?_
                        refine s_istore C 782 dL_law_780 rfl rfl rfl ?_
                        dsimp only [List.set]
                        suffices lp782 : ∀ (fu782 : Nat) (k : Nat), T - k < fu782 → k ≤ T → V X (40 * (26 - n)) (852 * (26 - n)) 782 [some (.ref (G.2.2.2.2.1 0)), some (.ref z), some (.ref qa), some (.ref aa), some (.long (lN q7)), none, some (.int (nI n)), some (.int w9), some (.int w11), some (.int (nI kd)), some (.int (nI (tS q))), some (.int (nI 1)), some (.int (nI (cntP (fun w => (pmO mo (tS q7) (tF q7) ((lLn al) w) ((lFl al) w)).isSome) k))), some (.int (nI k)), none, none, none] [] M9 from lp782 (T + 1) 0 (by omega) (by omega)
                        intro fu782
                        induction fu782 with
                        | zero => intro k hk0 hk; omega
                        | succ fu782 ih782 =>
                          intro k hk0 hk
                          have hcn := cntP_le (P := fun w => (pmO mo (tS q7) (tF q7) ((lLn al) w) ((lFl al) w)).isSome) k
                          refine s_iload C 784 dL_law_782 rfl rfl ?_
                          refine s_aload_n C 785 dL_law_784 rfl rfl ?_
                          refine s_iconst C 786 (nI 0) dL_law_785 rfl (by decide) ?_
                          refine s_iald C 787 dL_law_786 rfl hQ (by omega) (by omega) ?_
                          rw [hQ0]
                          refine s_icmp_geN C 824 790 dL_law_787 (by decide) rfl (by omega) (by omega) (fun z787 => ?_) (fun z787 => ?_)
                          · skip
                            have hkT : k = T := by omega
                            rw [hkT, rk_num (T := T) (mo := mo) (od := od) (ql := tS q7) (q := tF q7) (ln := (lLn al)) (fl := (lFl al)) (us := (lUs Q))]
                            have hrT := (rkN_T (T := T) (mo := mo) (od := od) (ql := tS q7) (q := tF q7) (ln := (lLn al)) (fl := (lFl al)) (us := (lUs Q))).1
                            refine s_aload_n C 825 dL_law_824 rfl rfl ?_
                            have R37 : agF (tS q - 1) q9 (tF (q7)) := fun k hk => (R3 k (by omega)).trans (tF_A (hd7 k (by omega))).symm
                            refine s_invV C 828 (40 * (26 - n) - 40) (852 * (26 - n) - 852) [] (zR_rv hz) dL_law_825 rfl m_L_143 (z_erase hz) rfl rfl rfl ⟨by decide, by decide⟩ (Nat.le_of_ble_eq_true rfl) (by omega) (by omega) ?_
                            rintro _ M24 ⟨rfl, hz, hF1⟩
                            dsimp only [Option.toList, List.cons_append, List.nil_append]
                            have hQ := hF1.at hQ TZ_q
                            have hA := hF1.at hA TZ_a
                            rw [if_pos (show 0 < tS q by omega), rkN_c R1 R2 R37, ← hs7]
                            simp only [if_pos (show 0 < tS q by omega)] at hz
                            rw [← hs7] at hz R37
                            refine s_iload C 830 dL_law_828 rfl rfl ?_
                            refine s_if_eqN C 838 833 dL_law_830 (by decide) rfl (by omega) (fun z830 => ?_) (fun z830 => ?_)
                            · skip
                              omega
                            · skip
                              refine s_iload C 835 dL_law_833 rfl rfl ?_
                              refine s_goto C 840 dL_law_835 (by decide) ?_
                              refine s_icmp_eqN C 845 843 dL_law_840 (by decide) rfl (by omega) (by omega) (fun z840 => ?_) (fun z840 => ?_)
                              · skip
                                have hI7 : lwI G M24 z qa aa T mo od (q7) _ _ := ⟨⟨_, _, _, _, _, _, _, hz, R1, R2, R37⟩, hQ, hA, hQ0, hQ1, hQ2, hT6, hm, ho, hg, hne, hq7⟩
                                refine s_goto C 907 dL_law_845 (by decide) ?_
                                refine V.drop 7 ?_
                                dsimp only [List.set]
                                refine V.drop 9 ?_
                                dsimp only [List.set]
                                refine V.drop 10 ?_
                                dsimp only [List.set]
                                refine V.drop 11 ?_
                                dsimp only [List.set]
                                refine V.drop 12 ?_
                                dsimp only [List.set]
                                refine V.drop 13 ?_
                                dsimp only [List.set]
                                refine V.widen (bc' := 40 * (26 - (n + 1))) (bs' := 852 * (26 - (n + 1))) (by omega) (by omega) ?_
                                exact j907 _ _ _ _ _ _ _ _ hI7
                              · skip
                                exact absurd rfl z840
                          · skip
                            refine s_iload C 792 dL_law_790 rfl rfl ?_
                            refine s_aload_n C 793 dL_law_792 rfl rfl ?_
                            refine s_iload C 795 dL_law_793 rfl rfl ?_
                            refine s_laldN C 796 dL_law_795 rfl hA (by omega) (by omega) ?_
                            refine s_lload C 798 dL_law_796 rfl rfl ?_
                            refine s_invS C 801 (40 * (26 - n)) (852 * (26 - n)) [.long (lN (al k)), .int (nI (cntP (fun w => (pmO mo (tS q7) (tF q7) ((lLn al) w) ((lFl al) w)).isSome) k))] dL_law_798 rfl m_L_48 (l_cut hq7.1.lt) rfl rfl rfl ⟨by decide, by decide⟩ (Nat.le_of_ble_eq_true rfl) (by omega) (by omega) ?_
                            rintro _ M25 ⟨rfl, rfl⟩
                            dsimp only [Option.toList, List.cons_append, List.nil_append]
                            refine s_aload_n C 802 dL_law_801 rfl rfl ?_
                            refine s_iconst C 803 (nI 1) dL_law_802 rfl (by decide) ?_
                            refine s_iald C 804 dL_law_803 rfl hQ (by omega) (by omega) ?_
                            rw [hQ1]
                            have hgk := hg k (by omega)
                            have hck : plT (al k) (tCut q7) mo = pmO mo (tS q7) (tF q7) ((lLn al) k) ((lFl al) k) := plT_cut hq7
                            have h26 : ∀ j, pmO mo (tS q7) (tF q7) ((lLn al) k) ((lFl al) k) = some j → j < 26 := fun j hj => plT_26 hgk (hck.trans hj)
                            have hck9 := tCut_ok hq7
                            refine s_invS C 807 (40 * (26 - n)) (852 * (26 - n)) [.int (nI (cntP (fun w => (pmO mo (tS q7) (tF q7) ((lLn al) w) ((lFl al) w)).isSome) k))] dL_law_804 rfl m_L_38 (l_place hgk hm hck9.1.lt hck9.2.1) rfl rfl rfl ⟨by decide, by decide⟩ (Nat.le_of_ble_eq_true rfl) (by omega) (by omega) ?_
                            rintro _ M26 ⟨rfl, rfl⟩
                            dsimp only [Option.toList, List.cons_append, List.nil_append]
                            rw [hck]
                            refine s_if_ge C 814 810 dL_law_807 (by decide) rfl (fun z807 => ?_) (fun z807 => ?_)
                            · skip
                              obtain ⟨pk, hpk⟩ := oN_s ((oJ_ge h26).mp z807)
                              have hsk : (pmO mo (tS q7) (tF q7) ((lLn al) k) ((lFl al) k)).isSome = true := by rw [hpk]; rfl
                              refine s_iconst C 815 (nI 1) dL_law_814 rfl (by decide) ?_
                              refine s_iaddN C 816 dL_law_815 rfl ?_
                              refine s_istore C 818 dL_law_816 rfl rfl rfl ?_
                              dsimp only [List.set]
                              refine s_iinc C 821 (nI (k + 1)) dL_law_818 rfl rfl (by rw [← nI_add]; rfl) rfl ?_
                              dsimp only [List.set]
                              refine s_goto C 782 dL_law_821 (by decide) ?_
                              have e9 : cntP (fun w => (pmO mo (tS q7) (tF q7) ((lLn al) w) ((lFl al) w)).isSome) (k + 1) = cntP (fun w => (pmO mo (tS q7) (tF q7) ((lLn al) w) ((lFl al) w)).isSome) k + 1 := by rw [cntP, if_pos hsk]
                              have i9 := ih782 (k + 1) (by omega) (by omega)
                              rw [e9] at i9
                              exact i9
                            · skip
                              have hnk : (pmO mo (tS q7) (tF q7) ((lLn al) k) ((lFl al) k)).isSome = false := by cases e : pmO mo (tS q7) (tF q7) ((lLn al) k) ((lFl al) k) with | none => rfl | some j => exact absurd ((oJ_ge h26).mpr (by rw [e]; exact fun w => by cases w)) z807
                              refine s_iconst C 811 (nI 0) dL_law_810 rfl (by decide) ?_
                              refine s_goto C 815 dL_law_811 (by decide) ?_
                              refine s_iaddN C 816 dL_law_815 rfl ?_
                              refine s_istore C 818 dL_law_816 rfl rfl rfl ?_
                              dsimp only [List.set]
                              refine s_iinc C 821 (nI (k + 1)) dL_law_818 rfl rfl (by rw [← nI_add]; rfl) rfl ?_
                              dsimp only [List.set]
                              refine s_goto C 782 dL_law_821 (by decide) ?_
                              have e9 : cntP (fun w => (pmO mo (tS q7) (tF q7) ((lLn al) w) ((lFl al) w)).isSome) (k + 1) = cntP (fun w => (pmO mo (tS q7) (tF q7) ((lLn al) w) ((lFl al) w)).isSome) k + 0 := by rw [cntP, if_neg (by rw [hnk]; decide)]
                              have i9 := ih782 (k + 1) (by omega) (by omega)
                              rw [e9] at i9
                              exact i9
                · skip
                  refine s_iload C 549 dL_law_547 rfl rfl ?_
                  refine s_bipush C 551 (nI 9) dL_law_549 rfl (by decide) ?_
                  refine s_icmp_neN C 557 554 dL_law_551 (by decide) rfl (by omega) (by omega) (fun z551 => ?_) (fun z551 => ?_)
                  · skip
                    refine s_iload C 559 dL_law_557 rfl rfl ?_
                    refine s_iconst C 560 (nI 4) dL_law_559 rfl (by decide) ?_
                    refine s_invS C 563 (40 * (26 - n)) (852 * (26 - n)) [] dL_law_560 rfl m_L_70 (l_low (v := w11) (m := 4) (by decide) (by decide)) rfl rfl rfl ⟨by decide, by decide⟩ (Nat.le_of_ble_eq_true rfl) (by omega) (by omega) ?_
                    rintro _ M27 ⟨rfl, rfl⟩
                    dsimp only [Option.toList, List.cons_append, List.nil_append]
                    have hlw_28 := lw_lt (v := w11) (m := 4) (by decide)
                    refine s_if_neN C 571 566 dL_law_563 (by decide) rfl (by omega) (fun z563 => ?_) (fun z563 => ?_)
                    · skip
                      refine s_iload C 573 dL_law_571 rfl rfl ?_
                      refine s_iconst C 574 (nI 2) dL_law_573 rfl (by decide) ?_
                      refine s_ishr C 575 dL_law_574 rfl ?_
                      refine s_bipush C 577 (nI 9) dL_law_575 rfl (by decide) ?_
                      refine s_invS C 580 (40 * (26 - n)) (852 * (26 - n)) [] dL_law_577 rfl m_L_70 (l_low (v := (w11 >>> ((nI 2) &&& 31))) (m := 9) (by decide) (by decide)) rfl rfl rfl ⟨by decide, by decide⟩ (Nat.le_of_ble_eq_true rfl) (by omega) (by omega) ?_
                      rintro _ M29 ⟨rfl, rfl⟩
                      dsimp only [Option.toList, List.cons_append, List.nil_append]
                      have hlw_30 := lw_lt (v := (w11 >>> ((nI 2) &&& 31))) (m := 9) (by decide)
                      refine s_if_neN C 588 583 dL_law_580 (by decide) rfl (by omega) (fun z580 => ?_) (fun z580 => ?_)
                      · skip
                        refine s_iconst C 589 (nI 1) dL_law_588 rfl (by decide) ?_
                        refine s_iload C 591 dL_law_589 rfl rfl ?_
                        refine s_iconst C 592 (nI 4) dL_law_591 rfl (by decide) ?_
                        refine s_ishr C 593 dL_law_592 rfl ?_
                        refine s_iconst C 594 (nI 2) dL_law_593 rfl (by decide) ?_
                        refine s_invS C 597 (40 * (26 - n)) (852 * (26 - n)) [.int (nI 1)] dL_law_594 rfl m_L_70 (l_low (v := (w11 >>> ((nI 4) &&& 31))) (m := 2) (by decide) (by decide)) rfl rfl rfl ⟨by decide, by decide⟩ (Nat.le_of_ble_eq_true rfl) (by omega) (by omega) ?_
                        rintro _ M31 ⟨rfl, rfl⟩
                        dsimp only [Option.toList, List.cons_append, List.nil_append]
                        have hlw_32 := lw_lt (v := (w11 >>> ((nI 4) &&& 31))) (m := 2) (by decide)
                        refine s_iaddN C 598 dL_law_597 rfl ?_
                        refine s_istore C 600 dL_law_598 rfl rfl rfl ?_
                        dsimp only [List.set]
                        refine s_iload C 602 dL_law_600 rfl rfl ?_
                        refine s_bipush C 604 (nI 27) dL_law_602 rfl (by decide) ?_
                        refine s_icmp_neN C 626 607 dL_law_604 (by decide) rfl (by omega) (by omega) (fun z604 => ?_) (fun z604 => ?_)
                        · skip
                          refine s_iconst C 627 (nI 1) dL_law_626 rfl (by decide) ?_
                          refine s_goto C 631 dL_law_627 (by decide) ?_
                          refine s_istore C 633 dL_law_631 rfl rfl rfl ?_
                          dsimp only [List.set]
                          have hc29 : 1 + (lw (w11 >>> ((nI 4) &&& 31)) 2) < 29 := by omega
                          have hc0 : ¬ (1 + (lw (w11 >>> ((nI 4) &&& 31)) 2)) = 0 := by omega
                          have hcan : 1 + (lw (w11 >>> ((nI 4) &&& 31)) 2) = 27 → 0 < tS q ∧ tA q (tS q - 1) ≠ 27 := fun w => by first | omega | exact ⟨by omega, by assumption⟩
                          obtain ⟨hor, hq7, hs7, hd7, he7⟩ := gQ_or (a := 1 + (lw (w11 >>> ((nI 4) &&& 31)) 2)) hq (by omega) (by omega) hc0 hcan
                          refine s_lload C 635 dL_law_633 rfl rfl ?_
                          refine s_iload C 637 dL_law_635 rfl rfl ?_
                          refine s_if_eqN C 651 640 dL_law_637 (by decide) rfl (by omega) (fun z637 => ?_) (fun z637 => ?_)
                          · skip
                            omega
                          · skip
                            refine s_iload C 642 dL_law_640 rfl rfl ?_
                            refine s_i2lN C 643 dL_law_642 rfl (by omega) ?_
                            refine s_iconst C 644 (nI 5) dL_law_643 rfl (by decide) ?_
                            refine s_iload C 646 dL_law_644 rfl rfl ?_
                            refine s_imulN C 647 dL_law_646 rfl ?_
                            refine s_lshlN C 648 dL_law_647 rfl (by omega) ?_
                            refine s_goto C 652 dL_law_648 (by decide) ?_
                            refine s_lorN C 653 dL_law_652 rfl ?_
                            rw [hor]
                            generalize hq7e : q + (1 + (lw (w11 >>> ((nI 4) &&& 31)) 2)) * 2 ^ (5 * tS q) = q7 at hq7 hs7 hd7 he7 ⊢
                            refine s_lstore C 655 dL_law_653 rfl rfl rfl ?_
                            dsimp only [List.set]
                            refine s_iconst C 656 (nI 0) dL_law_655 rfl (by decide) ?_
                            refine s_istore C 658 dL_law_656 rfl rfl rfl ?_
                            dsimp only [List.set]
                            refine s_iconst C 659 (nI 0) dL_law_658 rfl (by decide) ?_
                            refine s_istore C 661 dL_law_659 rfl rfl rfl ?_
                            dsimp only [List.set]
                            suffices lp661 : ∀ (fu661 : Nat) (k : Nat), T - k < fu661 → k ≤ T → V X (40 * (26 - n)) (852 * (26 - n)) 661 [some (.ref (G.2.2.2.2.1 0)), some (.ref z), some (.ref qa), some (.ref aa), some (.long (lN q7)), none, some (.int (nI n)), some (.int w9), some (.int w11), some (.int (nI kd)), some (.int (nI (tS q))), some (.int (nI (1 + (lw (w11 >>> ((nI 4) &&& 31)) 2)))), some (.int (nI 1)), some (.int (nI (cntP (fun w => (pmO mo (tS q7) (tF q7) ((lLn al) w) ((lFl al) w)).isSome) k))), some (.int (nI k)), none, none] [] M9 from lp661 (T + 1) 0 (by omega) (by omega)
                            intro fu661
                            induction fu661 with
                            | zero => intro k hk0 hk; omega
                            | succ fu661 ih661 =>
                              intro k hk0 hk
                              have hcn := cntP_le (P := fun w => (pmO mo (tS q7) (tF q7) ((lLn al) w) ((lFl al) w)).isSome) k
                              refine s_iload C 663 dL_law_661 rfl rfl ?_
                              refine s_aload_n C 664 dL_law_663 rfl rfl ?_
                              refine s_iconst C 665 (nI 0) dL_law_664 rfl (by decide) ?_
                              refine s_iald C 666 dL_law_665 rfl hQ (by omega) (by omega) ?_
                              rw [hQ0]
                              refine s_icmp_geN C 703 669 dL_law_666 (by decide) rfl (by omega) (by omega) (fun z666 => ?_) (fun z666 => ?_)
                              · skip
                                have hkT : k = T := by omega
                                rw [hkT, rk_num (T := T) (mo := mo) (od := od) (ql := tS q7) (q := tF q7) (ln := (lLn al)) (fl := (lFl al)) (us := (lUs Q))]
                                have hrT := (rkN_T (T := T) (mo := mo) (od := od) (ql := tS q7) (q := tF q7) (ln := (lLn al)) (fl := (lFl al)) (us := (lUs Q))).1
                                refine s_aload_n C 704 dL_law_703 rfl rfl ?_
                                refine s_iload C 706 dL_law_704 rfl rfl ?_
                                refine s_invS C 709 (40 * (26 - n)) (852 * (26 - n)) [.ref z] dL_law_706 rfl m_L_30 (l_code (c := 1 + (lw (w11 >>> ((nI 4) &&& 31)) 2)) (by omega)) rfl rfl rfl ⟨by decide, by decide⟩ (Nat.le_of_ble_eq_true rfl) (by omega) (by omega) ?_
                                rintro _ M33 ⟨rfl, rfl⟩
                                dsimp only [Option.toList, List.cons_append, List.nil_append]
                                have hok7 := as_y hq R3 hc29 hc0 hcan
                                have R37 : agF (tS q + 1) (upd q9 (tS q) (nI (tC (1 + (lw (w11 >>> ((nI 4) &&& 31)) 2))))) (tF (q7)) := fun k hk => by by_cases e : k = tS q; (· rw [e, pk_us]; show _ = nI (tC (tA _ _)); rw [he7]); rw [pk_un e, R3 k (by omega)]; exact (tF_A (hd7 k (by omega))).symm
                                refine s_invV C 712 (40 * (26 - n) - 40) (852 * (26 - n) - 852) [] (zR_rv hz) dL_law_709 rfl m_L_140 (z_ask hz) rfl rfl rfl ⟨by decide, by decide⟩ (Nat.le_of_ble_eq_true rfl) (by omega) (by omega) ?_
                                rintro _ M34 ⟨rfl, hz, hF1⟩
                                dsimp only [Option.toList, List.cons_append, List.nil_append]
                                have hQ := hF1.at hQ TZ_q
                                have hA := hF1.at hA TZ_a
                                rw [as_vy hok7, rkN_c R1 R2 R37, ← hs7]
                                simp only [if_pos hok7] at hz
                                rw [← hs7] at hz R37
                                refine s_iload C 714 dL_law_712 rfl rfl ?_
                                refine s_if_eqN C 722 717 dL_law_714 (by decide) rfl (by omega) (fun z714 => ?_) (fun z714 => ?_)
                                · skip
                                  omega
                                · skip
                                  refine s_iload C 719 dL_law_717 rfl rfl ?_
                                  refine s_goto C 724 dL_law_719 (by decide) ?_
                                  refine s_icmp_eqN C 729 727 dL_law_724 (by decide) rfl (by omega) (by omega) (fun z724 => ?_) (fun z724 => ?_)
                                  · skip
                                    have hI7 : lwI G M34 z qa aa T mo od (q7) _ _ := ⟨⟨_, _, _, _, _, _, _, hz, R1, R2, R37⟩, hQ, hA, hQ0, hQ1, hQ2, hT6, hm, ho, hg, hne, hq7⟩
                                    refine s_goto C 907 dL_law_729 (by decide) ?_
                                    refine V.drop 7 ?_
                                    dsimp only [List.set]
                                    refine V.drop 9 ?_
                                    dsimp only [List.set]
                                    refine V.drop 10 ?_
                                    dsimp only [List.set]
                                    refine V.drop 11 ?_
                                    dsimp only [List.set]
                                    refine V.drop 12 ?_
                                    dsimp only [List.set]
                                    refine V.drop 13 ?_
                                    dsimp only [List.set]
                                    refine V.drop 14 ?_
                                    dsimp only [List.set]
                                    refine V.widen (bc' := 40 * (26 - (n + 1))) (bs' := 852 * (26 - (n + 1))) (by omega) (by omega) ?_
                                    exact j907 _ _ _ _ _ _ _ _ hI7
                                  · skip
                                    exact absurd rfl z724
                              · skip
                                refine s_iload C 671 dL_law_669 rfl rfl ?_
                                refine s_aload_n C 672 dL_law_671 rfl rfl ?_
                                refine s_iload C 674 dL_law_672 rfl rfl ?_
                                refine s_laldN C 675 dL_law_674 rfl hA (by omega) (by omega) ?_
                                refine s_lload C 677 dL_law_675 rfl rfl ?_
                                refine s_invS C 680 (40 * (26 - n)) (852 * (26 - n)) [.long (lN (al k)), .int (nI (cntP (fun w => (pmO mo (tS q7) (tF q7) ((lLn al) w) ((lFl al) w)).isSome) k))] dL_law_677 rfl m_L_48 (l_cut hq7.1.lt) rfl rfl rfl ⟨by decide, by decide⟩ (Nat.le_of_ble_eq_true rfl) (by omega) (by omega) ?_
                                rintro _ M35 ⟨rfl, rfl⟩
                                dsimp only [Option.toList, List.cons_append, List.nil_append]
                                refine s_aload_n C 681 dL_law_680 rfl rfl ?_
                                refine s_iconst C 682 (nI 1) dL_law_681 rfl (by decide) ?_
                                refine s_iald C 683 dL_law_682 rfl hQ (by omega) (by omega) ?_
                                rw [hQ1]
                                have hgk := hg k (by omega)
                                have hck : plT (al k) (tCut q7) mo = pmO mo (tS q7) (tF q7) ((lLn al) k) ((lFl al) k) := plT_cut hq7
                                have h26 : ∀ j, pmO mo (tS q7) (tF q7) ((lLn al) k) ((lFl al) k) = some j → j < 26 := fun j hj => plT_26 hgk (hck.trans hj)
                                have hck9 := tCut_ok hq7
                                refine s_invS C 686 (40 * (26 - n)) (852 * (26 - n)) [.int (nI (cntP (fun w => (pmO mo (tS q7) (tF q7) ((lLn al) w) ((lFl al) w)).isSome) k))] dL_law_683 rfl m_L_38 (l_place hgk hm hck9.1.lt hck9.2.1) rfl rfl rfl ⟨by decide, by decide⟩ (Nat.le_of_ble_eq_true rfl) (by omega) (by omega) ?_
                                rintro _ M36 ⟨rfl, rfl⟩
                                dsimp only [Option.toList, List.cons_append, List.nil_append]
                                rw [hck]
                                refine s_if_ge C 693 689 dL_law_686 (by decide) rfl (fun z686 => ?_) (fun z686 => ?_)
                                · skip
                                  obtain ⟨pk, hpk⟩ := oN_s ((oJ_ge h26).mp z686)
                                  have hsk : (pmO mo (tS q7) (tF q7) ((lLn al) k) ((lFl al) k)).isSome = true := by rw [hpk]; rfl
                                  refine s_iconst C 694 (nI 1) dL_law_693 rfl (by decide) ?_
                                  refine s_iaddN C 695 dL_law_694 rfl ?_
                                  refine s_istore C 697 dL_law_695 rfl rfl rfl ?_
                                  dsimp only [List.set]
                                  refine s_iinc C 700 (nI (k + 1)) dL_law_697 rfl rfl (by rw [← nI_add]; rfl) rfl ?_
                                  dsimp only [List.set]
                                  refine s_goto C 661 dL_law_700 (by decide) ?_
                                  have e9 : cntP (fun w => (pmO mo (tS q7) (tF q7) ((lLn al) w) ((lFl al) w)).isSome) (k + 1) = cntP (fun w => (pmO mo (tS q7) (tF q7) ((lLn al) w) ((lFl al) w)).isSome) k + 1 := by rw [cntP, if_pos hsk]
                                  have i9 := ih661 (k + 1) (by omega) (by omega)
                                  rw [e9] at i9
                                  exact i9
                                · skip
                                  have hnk : (pmO mo (tS q7) (tF q7) ((lLn al) k) ((lFl al) k)).isSome = false := by cases e : pmO mo (tS q7) (tF q7) ((lLn al) k) ((lFl al) k) with | none => rfl | some j => exact absurd ((oJ_ge h26).mpr (by rw [e]; exact fun w => by cases w)) z686
                                  refine s_iconst C 690 (nI 0) dL_law_689 rfl (by decide) ?_
                                  refine s_goto C 694 dL_law_690 (by decide) ?_
                                  refine s_iaddN C 695 dL_law_694 rfl ?_
                                  refine s_istore C 697 dL_law_695 rfl rfl rfl ?_
                                  dsimp only [List.set]
                                  refine s_iinc C 700 (nI (k + 1)) dL_law_697 rfl rfl (by rw [← nI_add]; rfl) rfl ?_
                                  dsimp only [List.set]
                                  refine s_goto C 661 dL_law_700 (by decide) ?_
                                  have e9 : cntP (fun w => (pmO mo (tS q7) (tF q7) ((lLn al) w) ((lFl al) w)).isSome) (k + 1) = cntP (fun w => (pmO mo (tS q7) (tF q7) ((lLn al) w) ((lFl al) w)).isSome) k + 0 := by rw [cntP, if_neg (by rw [hnk]; decide)]
                                  have i9 := ih661 (k + 1) (by omega) (by omega)
                                  rw [e9] at i9
                                  exact i9
                        · skip
                          refine s_iload C 609 dL_law_607 rfl rfl ?_
                          refine s_if_leN C 630 612 dL_law_609 (by decide) rfl (by omega) (fun z609 => ?_) (fun z609 => ?_)
                          · skip
                            refine s_iconst C 631 (nI 0) dL_law_630 rfl (by decide) ?_
                            refine s_istore C 633 dL_law_631 rfl rfl rfl ?_
                            dsimp only [List.set]
                            have hc29 : 1 + (lw (w11 >>> ((nI 4) &&& 31)) 2) < 29 := by omega
                            have hc0 : ¬ (1 + (lw (w11 >>> ((nI 4) &&& 31)) 2)) = 0 := by omega
                            have hq7 := hq
                            have hcann : ¬ (0 < tS q ∧ tA q (tS q - 1) ≠ 27) := by omega
                            refine s_lload C 635 dL_law_633 rfl rfl ?_
                            refine s_iload C 637 dL_law_635 rfl rfl ?_
                            refine s_if_eqN C 651 640 dL_law_637 (by decide) rfl (by omega) (fun z637 => ?_) (fun z637 => ?_)
                            · skip
                              refine s_lconst C 652 (lN 0) dL_law_651 rfl rfl ?_
                              refine s_lorN C 653 dL_law_652 rfl ?_
                              rw [show q ||| 0 = q from Nat.or_zero q]
                              refine s_lstore C 655 dL_law_653 rfl rfl rfl ?_
                              dsimp only [List.set]
                              refine s_iconst C 656 (nI 0) dL_law_655 rfl (by decide) ?_
                              refine s_istore C 658 dL_law_656 rfl rfl rfl ?_
                              dsimp only [List.set]
                              refine s_iconst C 659 (nI 0) dL_law_658 rfl (by decide) ?_
                              refine s_istore C 661 dL_law_659 rfl rfl rfl ?_
                              dsimp only [List.set]
                              suffices lp661 : ∀ (fu661 : Nat) (k : Nat), T - k < fu661 → k ≤ T → V X (40 * (26 - n)) (852 * (26 - n)) 661 [some (.ref (G.2.2.2.2.1 0)), some (.ref z), some (.ref qa), some (.ref aa), some (.long (lN q)), none, some (.int (nI n)), some (.int w9), some (.int w11), some (.int (nI kd)), some (.int (nI (tS q))), some (.int (nI (1 + (lw (w11 >>> ((nI 4) &&& 31)) 2)))), some (.int (nI 0)), some (.int (nI (cntP (fun w => (pmO mo (tS q) (tF q) ((lLn al) w) ((lFl al) w)).isSome) k))), some (.int (nI k)), none, none] [] M9 from lp661 (T + 1) 0 (by omega) (by omega)
                              intro fu661
                              induction fu661 with
                              | zero => intro k hk0 hk; omega
                              | succ fu661 ih661 =>
                                intro k hk0 hk
                                have hcn := cntP_le (P := fun w => (pmO mo (tS q) (tF q) ((lLn al) w) ((lFl al) w)).isSome) k
                                refine s_iload C 663 dL_law_661 rfl rfl ?_
                                refine s_aload_n C 664 dL_law_663 rfl rfl ?_
                                refine s_iconst C 665 (nI 0) dL_law_664 rfl (by decide) ?_
                                refine s_iald C 666 dL_law_665 rfl hQ (by omega) (by omega) ?_
                                rw [hQ0]
                                refine s_icmp_geN C 703 669 dL_law_666 (by decide) rfl (by omega) (by omega) (fun z666 => ?_) (fun z666 => ?_)
                                · skip
                                  have hkT : k = T := by omega
                                  rw [hkT, rk_num (T := T) (mo := mo) (od := od) (ql := tS q) (q := tF q) (ln := (lLn al)) (fl := (lFl al)) (us := (lUs Q))]
                                  have hrT := (rkN_T (T := T) (mo := mo) (od := od) (ql := tS q) (q := tF q) (ln := (lLn al)) (fl := (lFl al)) (us := (lUs Q))).1
                                  refine s_aload_n C 704 dL_law_703 rfl rfl ?_
                                  refine s_iload C 706 dL_law_704 rfl rfl ?_
                                  refine s_invS C 709 (40 * (26 - n)) (852 * (26 - n)) [.ref z] dL_law_706 rfl m_L_30 (l_code (c := 1 + (lw (w11 >>> ((nI 4) &&& 31)) 2)) (by omega)) rfl rfl rfl ⟨by decide, by decide⟩ (Nat.le_of_ble_eq_true rfl) (by omega) (by omega) ?_
                                  rintro _ M37 ⟨rfl, rfl⟩
                                  dsimp only [Option.toList, List.cons_append, List.nil_append]
                                  have hok7 := as_n hq R3 hc29 hc0 (by omega) hcann
                                  refine s_invV C 712 (40 * (26 - n) - 40) (852 * (26 - n) - 852) [] (zR_rv hz) dL_law_709 rfl m_L_140 (z_ask hz) rfl rfl rfl ⟨by decide, by decide⟩ (Nat.le_of_ble_eq_true rfl) (by omega) (by omega) ?_
                                  rintro _ M38 ⟨rfl, hz, hF1⟩
                                  dsimp only [Option.toList, List.cons_append, List.nil_append]
                                  have hQ := hF1.at hQ TZ_q
                                  have hA := hF1.at hA TZ_a
                                  rw [as_vn hok7]
                                  simp only [if_neg (show ¬ ((nI (tC (1 + (lw (w11 >>> ((nI 4) &&& 31)) 2))) = nI 32 ∨ isL (nI (tC (1 + (lw (w11 >>> ((nI 4) &&& 31)) 2)))) = true) ∧ ¬ (nI (tC (1 + (lw (w11 >>> ((nI 4) &&& 31)) 2))) = nI 32 ∧ qeB (tS q) q9 = false) ∧ tS q < 24) from fun w => w.2.1 hok7)] at hz
                                  refine s_iload C 714 dL_law_712 rfl rfl ?_
                                  refine s_if_eqN C 722 717 dL_law_714 (by decide) rfl (by omega) (fun z714 => ?_) (fun z714 => ?_)
                                  · skip
                                    refine s_bipush C 724 (-3) dL_law_722 rfl (by decide) ?_
                                    refine s_icmp_eq C 729 727 dL_law_724 (by decide) rfl (fun z724 => ?_) (fun z724 => ?_)
                                    · skip
                                      have hI7 : lwI G M38 z qa aa T mo od (q) _ _ := ⟨⟨_, _, _, _, _, _, _, hz, R1, R2, R3⟩, hQ, hA, hQ0, hQ1, hQ2, hT6, hm, ho, hg, hne, hq7⟩
                                      refine s_goto C 907 dL_law_729 (by decide) ?_
                                      refine V.drop 7 ?_
                                      dsimp only [List.set]
                                      refine V.drop 9 ?_
                                      dsimp only [List.set]
                                      refine V.drop 10 ?_
                                      dsimp only [List.set]
                                      refine V.drop 11 ?_
                                      dsimp only [List.set]
                                      refine V.drop 12 ?_
                                      dsimp only [List.set]
                                      refine V.drop 13 ?_
                                      dsimp only [List.set]
                                      refine V.drop 14 ?_
                                      dsimp only [List.set]
                                      refine V.widen (bc' := 40 * (26 - (n + 1))) (bs' := 852 * (26 - (n + 1))) (by omega) (by omega) ?_
                                      exact j907 _ _ _ _ _ _ _ _ hI7
                                    · skip
                                      exact absurd rfl z724
                                  · skip
                                    omega
                                · skip
                                  refine s_iload C 671 dL_law_669 rfl rfl ?_
                                  refine s_aload_n C 672 dL_law_671 rfl rfl ?_
                                  refine s_iload C 674 dL_law_672 rfl rfl ?_
                                  refine s_laldN C 675 dL_law_674 rfl hA (by omega) (by omega) ?_
                                  refine s_lload C 677 dL_law_675 rfl rfl ?_
                                  refine s_invS C 680 (40 * (26 - n)) (852 * (26 - n)) [.long (lN (al k)), .int (nI (cntP (fun w => (pmO mo (tS q) (tF q) ((lLn al) w) ((lFl al) w)).isSome) k))] dL_law_677 rfl m_L_48 (l_cut hq7.1.lt) rfl rfl rfl ⟨by decide, by decide⟩ (Nat.le_of_ble_eq_true rfl) (by omega) (by omega) ?_
                                  rintro _ M39 ⟨rfl, rfl⟩
                                  dsimp only [Option.toList, List.cons_append, List.nil_append]
                                  refine s_aload_n C 681 dL_law_680 rfl rfl ?_
                                  refine s_iconst C 682 (nI 1) dL_law_681 rfl (by decide) ?_
                                  refine s_iald C 683 dL_law_682 rfl hQ (by omega) (by omega) ?_
                                  rw [hQ1]
                                  have hgk := hg k (by omega)
                                  have hck : plT (al k) (tCut q) mo = pmO mo (tS q) (tF q) ((lLn al) k) ((lFl al) k) := plT_cut hq7
                                  have h26 : ∀ j, pmO mo (tS q) (tF q) ((lLn al) k) ((lFl al) k) = some j → j < 26 := fun j hj => plT_26 hgk (hck.trans hj)
                                  have hck9 := tCut_ok hq7
                                  refine s_invS C 686 (40 * (26 - n)) (852 * (26 - n)) [.int (nI (cntP (fun w => (pmO mo (tS q) (tF q) ((lLn al) w) ((lFl al) w)).isSome) k))] dL_law_683 rfl m_L_38 (l_place hgk hm hck9.1.lt hck9.2.1) rfl rfl rfl ⟨by decide, by decide⟩ (Nat.le_of_ble_eq_true rfl) (by omega) (by omega) ?_
                                  rintro _ M40 ⟨rfl, rfl⟩
                                  dsimp only [Option.toList, List.cons_append, List.nil_append]
                                  rw [hck]
                                  refine s_if_ge C 693 689 dL_law_686 (by decide) rfl (fun z686 => ?_) (fun z686 => ?_)
                                  · skip
                                    obtain ⟨pk, hpk⟩ := oN_s ((oJ_ge h26).mp z686)
                                    have hsk : (pmO mo (tS q) (tF q) ((lLn al) k) ((lFl al) k)).isSome = true := by rw [hpk]; rfl
                                    refine s_iconst C 694 (nI 1) dL_law_693 rfl (by decide) ?_
                                    refine s_iaddN C 695 dL_law_694 rfl ?_
                                    refine s_istore C 697 dL_law_695 rfl rfl rfl ?_
                                    dsimp only [List.set]
                                    refine s_iinc C 700 (nI (k + 1)) dL_law_697 rfl rfl (by rw [← nI_add]; rfl) rfl ?_
                                    dsimp only [List.set]
                                    refine s_goto C 661 dL_law_700 (by decide) ?_
                                    have e9 : cntP (fun w => (pmO mo (tS q) (tF q) ((lLn al) w) ((lFl al) w)).isSome) (k + 1) = cntP (fun w => (pmO mo (tS q) (tF q) ((lLn al) w) ((lFl al) w)).isSome) k + 1 := by rw [cntP, if_pos hsk]
                                    have i9 := ih661 (k + 1) (by omega) (by omega)
                                    rw [e9] at i9
                                    exact i9
                                  · skip
                                    have hnk : (pmO mo (tS q) (tF q) ((lLn al) k) ((lFl al) k)).isSome = false := by cases e : pmO mo (tS q) (tF q) ((lLn al) k) ((lFl al) k) with | none => rfl | some j => exact absurd ((oJ_ge h26).mpr (by rw [e]; exact fun w => by cases w)) z686
                                    refine s_iconst C 690 (nI 0) dL_law_689 rfl (by decide) ?_
                                    refine s_goto C 694 dL_law_690 (by decide) ?_
                                    refine s_iaddN C 695 dL_law_694 rfl ?_
                                    refine s_istore C 697 dL_law_695 rfl rfl rfl ?_
                                    dsimp only [List.set]
                                    refine s_iinc C 700 (nI (k + 1)) dL_law_697 rfl rfl (by rw [← nI_add]; rfl) rfl ?_
                                    dsimp only [List.set]
                                    refine s_goto C 661 dL_law_700 (by decide) ?_
                                    have e9 : cntP (fun w => (pmO mo (tS q) (tF q) ((lLn al) w) ((lFl al) w)).isSome) (k + 1) = cntP (fun w => (pmO mo (tS q) (tF q) ((lLn al) w) ((lFl al) w)).isSome) k + 0 := by rw [cntP, if_neg (by rw [hnk]; decide)]
                                    have i9 := ih661 (k + 1) (by omega) (by omega)
                                    rw [e9] at i9
                                    exact i9
                            · skip
                              omega
                          · skip
                            refine s_lload C 614 dL_law_612 rfl rfl ?_
                            refine s_iload C 616 dL_law_614 rfl rfl ?_
                            refine s_iconst C 617 (nI 1) dL_law_616 rfl (by decide) ?_
                            refine s_isubN C 618 dL_law_617 rfl (by omega) ?_
                            refine s_invS C 621 (40 * (26 - n)) (852 * (26 - n)) [] dL_law_618 rfl m_L_12 (l_at (t := q) (k := (tS q) - 1) (by first | exact hq.1.lt | exact hnt.g.lt) (by omega)) rfl rfl rfl ⟨by decide, by decide⟩ (Nat.le_of_ble_eq_true rfl) (by omega) (by omega) ?_
                            rintro _ M41 ⟨rfl, rfl⟩
                            dsimp only [Option.toList, List.cons_append, List.nil_append]
                            refine s_bipush C 623 (nI 27) dL_law_621 rfl (by decide) ?_
                            refine s_icmp_eqN C 630 626 dL_law_623 (by decide) rfl (by omega) (by omega) (fun z623 => ?_) (fun z623 => ?_)
                            · skip
                              refine s_iconst C 631 (nI 0) dL_law_630 rfl (by decide) ?_
                              refine s_istore C 633 dL_law_631 rfl rfl rfl ?_
                              dsimp only [List.set]
                              have hc29 : 1 + (lw (w11 >>> ((nI 4) &&& 31)) 2) < 29 := by omega
                              have hc0 : ¬ (1 + (lw (w11 >>> ((nI 4) &&& 31)) 2)) = 0 := by omega
                              have hq7 := hq
                              have hcann : ¬ (0 < tS q ∧ tA q (tS q - 1) ≠ 27) := by omega
                              refine s_lload C 635 dL_law_633 rfl rfl ?_
                              refine s_iload C 637 dL_law_635 rfl rfl ?_
                              refine s_if_eqN C 651 640 dL_law_637 (by decide) rfl (by omega) (fun z637 => ?_) (fun z637 => ?_)
                              · skip
                                refine s_lconst C 652 (lN 0) dL_law_651 rfl rfl ?_
                                refine s_lorN C 653 dL_law_652 rfl ?_
                                rw [show q ||| 0 = q from Nat.or_zero q]
                                refine s_lstore C 655 dL_law_653 rfl rfl rfl ?_
                                dsimp only [List.set]
                                refine s_iconst C 656 (nI 0) dL_law_655 rfl (by decide) ?_
                                refine s_istore C 658 dL_law_656 rfl rfl rfl ?_
                                dsimp only [List.set]
                                refine s_iconst C 659 (nI 0) dL_law_658 rfl (by decide) ?_
                                refine s_istore C 661 dL_law_659 rfl rfl rfl ?_
                                dsimp only [List.set]
                                suffices lp661 : ∀ (fu661 : Nat) (k : Nat), T - k < fu661 → k ≤ T → V X (40 * (26 - n)) (852 * (26 - n)) 661 [some (.ref (G.2.2.2.2.1 0)), some (.ref z), some (.ref qa), some (.ref aa), some (.long (lN q)), none, some (.int (nI n)), some (.int w9), some (.int w11), some (.int (nI kd)), some (.int (nI (tS q))), some (.int (nI (1 + (lw (w11 >>> ((nI 4) &&& 31)) 2)))), some (.int (nI 0)), some (.int (nI (cntP (fun w => (pmO mo (tS q) (tF q) ((lLn al) w) ((lFl al) w)).isSome) k))), some (.int (nI k)), none, none] [] M9 from lp661 (T + 1) 0 (by omega) (by omega)
                                intro fu661
                                induction fu661 with
                                | zero => intro k hk0 hk; omega
                                | succ fu661 ih661 =>
                                  intro k hk0 hk
                                  have hcn := cntP_le (P := fun w => (pmO mo (tS q) (tF q) ((lLn al) w) ((lFl al) w)).isSome) k
                                  refine s_iload C 663 dL_law_661 rfl rfl ?_
                                  refine s_aload_n C 664 dL_law_663 rfl rfl ?_
                                  refine s_iconst C 665 (nI 0) dL_law_664 rfl (by decide) ?_
                                  refine s_iald C 666 dL_law_665 rfl hQ (by omega) (by omega) ?_
                                  rw [hQ0]
                                  refine s_icmp_geN C 703 669 dL_law_666 (by decide) rfl (by omega) (by omega) (fun z666 => ?_) (fun z666 => ?_)
                                  · skip
                                    have hkT : k = T := by omega
                                    rw [hkT, rk_num (T := T) (mo := mo) (od := od) (ql := tS q) (q := tF q) (ln := (lLn al)) (fl := (lFl al)) (us := (lUs Q))]
                                    have hrT := (rkN_T (T := T) (mo := mo) (od := od) (ql := tS q) (q := tF q) (ln := (lLn al)) (fl := (lFl al)) (us := (lUs Q))).1
                                    refine s_aload_n C 704 dL_law_703 rfl rfl ?_
                                    refine s_iload C 706 dL_law_704 rfl rfl ?_
                                    refine s_invS C 709 (40 * (26 - n)) (852 * (26 - n)) [.ref z] dL_law_706 rfl m_L_30 (l_code (c := 1 + (lw (w11 >>> ((nI 4) &&& 31)) 2)) (by omega)) rfl rfl rfl ⟨by decide, by decide⟩ (Nat.le_of_ble_eq_true rfl) (by omega) (by omega) ?_
                                    rintro _ M42 ⟨rfl, rfl⟩
                                    dsimp only [Option.toList, List.cons_append, List.nil_append]
                                    have hok7 := as_n hq R3 hc29 hc0 (by omega) hcann
                                    refine s_invV C 712 (40 * (26 - n) - 40) (852 * (26 - n) - 852) [] (zR_rv hz) dL_law_709 rfl m_L_140 (z_ask hz) rfl rfl rfl ⟨by decide, by decide⟩ (Nat.le_of_ble_eq_true rfl) (by omega) (by omega) ?_
                                    rintro _ M43 ⟨rfl, hz, hF1⟩
                                    dsimp only [Option.toList, List.cons_append, List.nil_append]
                                    have hQ := hF1.at hQ TZ_q
                                    have hA := hF1.at hA TZ_a
                                    rw [as_vn hok7]
                                    simp only [if_neg (show ¬ ((nI (tC (1 + (lw (w11 >>> ((nI 4) &&& 31)) 2))) = nI 32 ∨ isL (nI (tC (1 + (lw (w11 >>> ((nI 4) &&& 31)) 2)))) = true) ∧ ¬ (nI (tC (1 + (lw (w11 >>> ((nI 4) &&& 31)) 2))) = nI 32 ∧ qeB (tS q) q9 = false) ∧ tS q < 24) from fun w => w.2.1 hok7)] at hz
                                    refine s_iload C 714 dL_law_712 rfl rfl ?_
                                    refine s_if_eqN C 722 717 dL_law_714 (by decide) rfl (by omega) (fun z714 => ?_) (fun z714 => ?_)
                                    · skip
                                      refine s_bipush C 724 (-3) dL_law_722 rfl (by decide) ?_
                                      refine s_icmp_eq C 729 727 dL_law_724 (by decide) rfl (fun z724 => ?_) (fun z724 => ?_)
                                      · skip
                                        have hI7 : lwI G M43 z qa aa T mo od (q) _ _ := ⟨⟨_, _, _, _, _, _, _, hz, R1, R2, R3⟩, hQ, hA, hQ0, hQ1, hQ2, hT6, hm, ho, hg, hne, hq7⟩
                                        refine s_goto C 907 dL_law_729 (by decide) ?_
                                        refine V.drop 7 ?_
                                        dsimp only [List.set]
                                        refine V.drop 9 ?_
                                        dsimp only [List.set]
                                        refine V.drop 10 ?_
                                        dsimp only [List.set]
                                        refine V.drop 11 ?_
                                        dsimp only [List.set]
                                        refine V.drop 12 ?_
                                        dsimp only [List.set]
                                        refine V.drop 13 ?_
                                        dsimp only [List.set]
                                        refine V.drop 14 ?_
                                        dsimp only [List.set]
                                        refine V.widen (bc' := 40 * (26 - (n + 1))) (bs' := 852 * (26 - (n + 1))) (by omega) (by omega) ?_
                                        exact j907 _ _ _ _ _ _ _ _ hI7
                                      · skip
                                        exact absurd rfl z724
                                    · skip
                                      omega
                                  · skip
                                    refine s_iload C 671 dL_law_669 rfl rfl ?_
                                    refine s_aload_n C 672 dL_law_671 rfl rfl ?_
                                    refine s_iload C 674 dL_law_672 rfl rfl ?_
                                    refine s_laldN C 675 dL_law_674 rfl hA (by omega) (by omega) ?_
                                    refine s_lload C 677 dL_law_675 rfl rfl ?_
                                    refine s_invS C 680 (40 * (26 - n)) (852 * (26 - n)) [.long (lN (al k)), .int (nI (cntP (fun w => (pmO mo (tS q) (tF q) ((lLn al) w) ((lFl al) w)).isSome) k))] dL_law_677 rfl m_L_48 (l_cut hq7.1.lt) rfl rfl rfl ⟨by decide, by decide⟩ (Nat.le_of_ble_eq_true rfl) (by omega) (by omega) ?_
                                    rintro _ M44 ⟨rfl, rfl⟩
                                    dsimp only [Option.toList, List.cons_append, List.nil_append]
                                    refine s_aload_n C 681 dL_law_680 rfl rfl ?_
                                    refine s_iconst C 682 (nI 1) dL_law_681 rfl (by decide) ?_
                                    refine s_iald C 683 dL_law_682 rfl hQ (by omega) (by omega) ?_
                                    rw [hQ1]
                                    have hgk := hg k (by omega)
                                    have hck : plT (al k) (tCut q) mo = pmO mo (tS q) (tF q) ((lLn al) k) ((lFl al) k) := plT_cut hq7
                                    have h26 : ∀ j, pmO mo (tS q) (tF q) ((lLn al) k) ((lFl al) k) = some j → j < 26 := fun j hj => plT_26 hgk (hck.trans hj)
                                    have hck9 := tCut_ok hq7
                                    refine s_invS C 686 (40 * (26 - n)) (852 * (26 - n)) [.int (nI (cntP (fun w => (pmO mo (tS q) (tF q) ((lLn al) w) ((lFl al) w)).isSome) k))] dL_law_683 rfl m_L_38 (l_place hgk hm hck9.1.lt hck9.2.1) rfl rfl rfl ⟨by decide, by decide⟩ (Nat.le_of_ble_eq_true rfl) (by omega) (by omega) ?_
                                    rintro _ M45 ⟨rfl, rfl⟩
                                    dsimp only [Option.toList, List.cons_append, List.nil_append]
                                    rw [hck]
                                    refine s_if_ge C 693 689 dL_law_686 (by decide) rfl (fun z686 => ?_) (fun z686 => ?_)
                                    · skip
                                      obtain ⟨pk, hpk⟩ := oN_s ((oJ_ge h26).mp z686)
                                      have hsk : (pmO mo (tS q) (tF q) ((lLn al) k) ((lFl al) k)).isSome = true := by rw [hpk]; rfl
                                      refine s_iconst C 694 (nI 1) dL_law_693 rfl (by decide) ?_
                                      refine s_iaddN C 695 dL_law_694 rfl ?_
                                      refine s_istore C 697 dL_law_695 rfl rfl rfl ?_
                                      dsimp only [List.set]
                                      refine s_iinc C 700 (nI (k + 1)) dL_law_697 rfl rfl (by rw [← nI_add]; rfl) rfl ?_
                                      dsimp only [List.set]
                                      refine s_goto C 661 dL_law_700 (by decide) ?_
                                      have e9 : cntP (fun w => (pmO mo (tS q) (tF q) ((lLn al) w) ((lFl al) w)).isSome) (k + 1) = cntP (fun w => (pmO mo (tS q) (tF q) ((lLn al) w) ((lFl al) w)).isSome) k + 1 := by rw [cntP, if_pos hsk]
                                      have i9 := ih661 (k + 1) (by omega) (by omega)
                                      rw [e9] at i9
                                      exact i9
                                    · skip
                                      have hnk : (pmO mo (tS q) (tF q) ((lLn al) k) ((lFl al) k)).isSome = false := by cases e : pmO mo (tS q) (tF q) ((lLn al) k) ((lFl al) k) with | none => rfl | some j => exact absurd ((oJ_ge h26).mpr (by rw [e]; exact fun w => by cases w)) z686
                                      refine s_iconst C 690 (nI 0) dL_law_689 rfl (by decide) ?_
                                      refine s_goto C 694 dL_law_690 (by decide) ?_
                                      refine s_iaddN C 695 dL_law_694 rfl ?_
                                      refine s_istore C 697 dL_law_695 rfl rfl rfl ?_
                                      dsimp only [List.set]
                                      refine s_iinc C 700 (nI (k + 1)) dL_law_697 rfl rfl (by rw [← nI_add]; rfl) rfl ?_
                                      dsimp only [List.set]
                                      refine s_goto C 661 dL_law_700 (by decide) ?_
                                      have e9 : cntP (fun w => (pmO mo (tS q) (tF q) ((lLn al) w) ((lFl al) w)).isSome) (k + 1) = cntP (fun w => (pmO mo (tS q) (tF q) ((lLn al) w) ((lFl al) w)).isSome) k + 0 := by rw [cntP, if_neg (by rw [hnk]; decide)]
                                      have i9 := ih661 (k + 1) (by omega) (by omega)
                                      rw [e9] at i9
                                      exact i9
                              · skip
                                omega
                            · skip
                              refine s_iconst C 627 (nI 1) dL_law_626 rfl (by decide) ?_
                              refine s_goto C 631 dL_law_627 (by decide) ?_
                              refine s_istore C 633 dL_law_631 rfl rfl rfl ?_
                              dsimp only [List.set]
                              have hc29 : 1 + (lw (w11 >>> ((nI 4) &&& 31)) 2) < 29 := by omega
                              have hc0 : ¬ (1 + (lw (w11 >>> ((nI 4) &&& 31)) 2)) = 0 := by omega
                              have hcan : 1 + (lw (w11 >>> ((nI 4) &&& 31)) 2) = 27 → 0 < tS q ∧ tA q (tS q - 1) ≠ 27 := fun w => by first | omega | exact ⟨by omega, by assumption⟩
                              obtain ⟨hor, hq7, hs7, hd7, he7⟩ := gQ_or (a := 1 + (lw (w11 >>> ((nI 4) &&& 31)) 2)) hq (by omega) (by omega) hc0 hcan
                              refine s_lload C 635 dL_law_633 rfl rfl ?_
                              refine s_iload C 637 dL_law_635 rfl rfl ?_
                              refine s_if_eqN C 651 640 dL_law_637 (by decide) rfl (by omega) (fun z637 => ?_) (fun z637 => ?_)
                              · skip
                                omega
                              · skip
                                refine s_iload C 642 dL_law_640 rfl rfl ?_
                                refine s_i2lN C 643 dL_law_642 rfl (by omega) ?_
                                refine s_iconst C 644 (nI 5) dL_law_643 rfl (by decide) ?_
                                refine s_iload C 646 dL_law_644 rfl rfl ?_
                                refine s_imulN C 647 dL_law_646 rfl ?_
                                refine s_lshlN C 648 dL_law_647 rfl (by omega) ?_
                                refine s_goto C 652 dL_law_648 (by decide) ?_
                                refine s_lorN C 653 dL_law_652 rfl ?_
                                rw [hor]
                                generalize hq7e : q + (1 + (lw (w11 >>> ((nI 4) &&& 31)) 2)) * 2 ^ (5 * tS q) = q7 at hq7 hs7 hd7 he7 ⊢
                                refine s_lstore C 655 dL_law_653 rfl rfl rfl ?_
                                dsimp only [List.set]
                                refine s_iconst C 656 (nI 0) dL_law_655 rfl (by decide) ?_
                                refine s_istore C 658 dL_law_656 rfl rfl rfl ?_
                                dsimp only [List.set]
                                refine s_iconst C 659 (nI 0) dL_law_658 rfl (by decide) ?_
                                refine s_istore C 661 dL_law_659 rfl rfl rfl ?_
                                dsimp only [List.set]
                                suffices lp661 : ∀ (fu661 : Nat) (k : Nat), T - k < fu661 → k ≤ T → V X (40 * (26 - n)) (852 * (26 - n)) 661 [some (.ref (G.2.2.2.2.1 0)), some (.ref z), some (.ref qa), some (.ref aa), some (.long (lN q7)), none, some (.int (nI n)), some (.int w9), some (.int w11), some (.int (nI kd)), some (.int (nI (tS q))), some (.int (nI (1 + (lw (w11 >>> ((nI 4) &&& 31)) 2)))), some (.int (nI 1)), some (.int (nI (cntP (fun w => (pmO mo (tS q7) (tF q7) ((lLn al) w) ((lFl al) w)).isSome) k))), some (.int (nI k)), none, none] [] M9 from lp661 (T + 1) 0 (by omega) (by omega)
                                intro fu661
                                induction fu661 with
                                | zero => intro k hk0 hk; omega
                                | succ fu661 ih661 =>
                                  intro k hk0 hk
                                  have hcn := cntP_le (P := fun w => (pmO mo (tS q7) (tF q7) ((lLn al) w) ((lFl al) w)).isSome) k
                                  refine s_iload C 663 dL_law_661 rfl rfl ?_
                                  refine s_aload_n C 664 dL_law_663 rfl rfl ?_
                                  refine s_iconst C 665 (nI 0) dL_law_664 rfl (by decide) ?_
                                  refine s_iald C 666 dL_law_665 rfl hQ (by omega) (by omega) ?_
                                  rw [hQ0]
                                  refine s_icmp_geN C 703 669 dL_law_666 (by decide) rfl (by omega) (by omega) (fun z666 => ?_) (fun z666 => ?_)
                                  · skip
                                    have hkT : k = T := by omega
                                    rw [hkT, rk_num (T := T) (mo := mo) (od := od) (ql := tS q7) (q := tF q7) (ln := (lLn al)) (fl := (lFl al)) (us := (lUs Q))]
                                    have hrT := (rkN_T (T := T) (mo := mo) (od := od) (ql := tS q7) (q := tF q7) (ln := (lLn al)) (fl := (lFl al)) (us := (lUs Q))).1
                                    refine s_aload_n C 704 dL_law_703 rfl rfl ?_
                                    refine s_iload C 706 dL_law_704 rfl rfl ?_
                                    refine s_invS C 709 (40 * (26 - n)) (852 * (26 - n)) [.ref z] dL_law_706 rfl m_L_30 (l_code (c := 1 + (lw (w11 >>> ((nI 4) &&& 31)) 2)) (by omega)) rfl rfl rfl ⟨by decide, by decide⟩ (Nat.le_of_ble_eq_true rfl) (by omega) (by omega) ?_
                                    rintro _ M46 ⟨rfl, rfl⟩
                                    dsimp only [Option.toList, List.cons_append, List.nil_append]
                                    have hok7 := as_y hq R3 hc29 hc0 hcan
                                    have R37 : agF (tS q + 1) (upd q9 (tS q) (nI (tC (1 + (lw (w11 >>> ((nI 4) &&& 31)) 2))))) (tF (q7)) := fun k hk => by by_cases e : k = tS q; (· rw [e, pk_us]; show _ = nI (tC (tA _ _)); rw [he7]); rw [pk_un e, R3 k (by omega)]; exact (tF_A (hd7 k (by omega))).symm
                                    refine s_invV C 712 (40 * (26 - n) - 40) (852 * (26 - n) - 852) [] (zR_rv hz) dL_law_709 rfl m_L_140 (z_ask hz) rfl rfl rfl ⟨by decide, by decide⟩ (Nat.le_of_ble_eq_true rfl) (by omega) (by omega) ?_
                                    rintro _ M47 ⟨rfl, hz, hF1⟩
                                    dsimp only [Option.toList, List.cons_append, List.nil_append]
                                    have hQ := hF1.at hQ TZ_q
                                    have hA := hF1.at hA TZ_a
                                    rw [as_vy hok7, rkN_c R1 R2 R37, ← hs7]
                                    simp only [if_pos hok7] at hz
                                    rw [← hs7] at hz R37
                                    refine s_iload C 714 dL_law_712 rfl rfl ?_
                                    refine s_if_eqN C 722 717 dL_law_714 (by decide) rfl (by omega) (fun z714 => ?_) (fun z714 => ?_)
                                    · skip
                                      omega
                                    · skip
                                      refine s_iload C 719 dL_law_717 rfl rfl ?_
                                      refine s_goto C 724 dL_law_719 (by decide) ?_
                                      refine s_icmp_eqN C 729 727 dL_law_724 (by decide) rfl (by omega) (by omega) (fun z724 => ?_) (fun z724 => ?_)
                                      · skip
                                        have hI7 : lwI G M47 z qa aa T mo od (q7) _ _ := ⟨⟨_, _, _, _, _, _, _, hz, R1, R2, R37⟩, hQ, hA, hQ0, hQ1, hQ2, hT6, hm, ho, hg, hne, hq7⟩
                                        refine s_goto C 907 dL_law_729 (by decide) ?_
                                        refine V.drop 7 ?_
                                        dsimp only [List.set]
                                        refine V.drop 9 ?_
                                        dsimp only [List.set]
                                        refine V.drop 10 ?_
                                        dsimp only [List.set]
                                        refine V.drop 11 ?_
                                        dsimp only [List.set]
                                        refine V.drop 12 ?_
                                        dsimp only [List.set]
                                        refine V.drop 13 ?_
                                        dsimp only [List.set]
                                        refine V.drop 14 ?_
                                        dsimp only [List.set]
                                        refine V.widen (bc' := 40 * (26 - (n + 1))) (bs' := 852 * (26 - (n + 1))) (by omega) (by omega) ?_
                                        exact j907 _ _ _ _ _ _ _ _ hI7
                                      · skip
                                        exact absurd rfl z724
                                  · skip
                                    refine s_iload C 671 dL_law_669 rfl rfl ?_
                                    refine s_aload_n C 672 dL_law_671 rfl rfl ?_
                                    refine s_iload C 674 dL_law_672 rfl rfl ?_
                                    refine s_laldN C 675 dL_law_674 rfl hA (by omega) (by omega) ?_
                                    refine s_lload C 677 dL_law_675 rfl rfl ?_
                                    refine s_invS C 680 (40 * (26 - n)) (852 * (26 - n)) [.long (lN (al k)), .int (nI (cntP (fun w => (pmO mo (tS q7) (tF q7) ((lLn al) w) ((lFl al) w)).isSome) k))] dL_law_677 rfl m_L_48 (l_cut hq7.1.lt) rfl rfl rfl ⟨by decide, by decide⟩ (Nat.le_of_ble_eq_true rfl) (by omega) (by omega) ?_
                                    rintro _ M48 ⟨rfl, rfl⟩
                                    dsimp only [Option.toList, List.cons_append, List.nil_append]
                                    refine s_aload_n C 681 dL_law_680 rfl rfl ?_
                                    refine s_iconst C 682 (nI 1) dL_law_681 rfl (by decide) ?_
                                    refine s_iald C 683 dL_law_682 rfl hQ (by omega) (by omega) ?_
                                    rw [hQ1]
                                    have hgk := hg k (by omega)
                                    have hck : plT (al k) (tCut q7) mo = pmO mo (tS q7) (tF q7) ((lLn al) k) ((lFl al) k) := plT_cut hq7
                                    have h26 : ∀ j, pmO mo (tS q7) (tF q7) ((lLn al) k) ((lFl al) k) = some j → j < 26 := fun j hj => plT_26 hgk (hck.trans hj)
                                    have hck9 := tCut_ok hq7
                                    refine s_invS C 686 (40 * (26 - n)) (852 * (26 - n)) [.int (nI (cntP (fun w => (pmO mo (tS q7) (tF q7) ((lLn al) w) ((lFl al) w)).isSome) k))] dL_law_683 rfl m_L_38 (l_place hgk hm hck9.1.lt hck9.2.1) rfl rfl rfl ⟨by decide, by decide⟩ (Nat.le_of_ble_eq_true rfl) (by omega) (by omega) ?_
                                    rintro _ M49 ⟨rfl, rfl⟩
                                    dsimp only [Option.toList, List.cons_append, List.nil_append]
                                    rw [hck]
                                    refine s_if_ge C 693 689 dL_law_686 (by decide) rfl (fun z686 => ?_) (fun z686 => ?_)
                                    · skip
                                      obtain ⟨pk, hpk⟩ := oN_s ((oJ_ge h26).mp z686)
                                      have hsk : (pmO mo (tS q7) (tF q7) ((lLn al) k) ((lFl al) k)).isSome = true := by rw [hpk]; rfl
                                      refine s_iconst C 694 (nI 1) dL_law_693 rfl (by decide) ?_
                                      refine s_iaddN C 695 dL_law_694 rfl ?_
                                      refine s_istore C 697 dL_law_695 rfl rfl rfl ?_
                                      dsimp only [List.set]
                                      refine s_iinc C 700 (nI (k + 1)) dL_law_697 rfl rfl (by rw [← nI_add]; rfl) rfl ?_
                                      dsimp only [List.set]
                                      refine s_goto C 661 dL_law_700 (by decide) ?_
                                      have e9 : cntP (fun w => (pmO mo (tS q7) (tF q7) ((lLn al) w) ((lFl al) w)).isSome) (k + 1) = cntP (fun w => (pmO mo (tS q7) (tF q7) ((lLn al) w) ((lFl al) w)).isSome) k + 1 := by rw [cntP, if_pos hsk]
                                      have i9 := ih661 (k + 1) (by omega) (by omega)
                                      rw [e9] at i9
                                      exact i9
                                    · skip
                                      have hnk : (pmO mo (tS q7) (tF q7) ((lLn al) k) ((lFl al) k)).isSome = false := by cases e : pmO mo (tS q7) (tF q7) ((lLn al) k) ((lFl al) k) with | none => rfl | some j => exact absurd ((oJ_ge h26).mpr (by rw [e]; exact fun w => by cases w)) z686
                                      refine s_iconst C 690 (nI 0) dL_law_689 rfl (by decide) ?_
                                      refine s_goto C 694 dL_law_690 (by decide) ?_
                                      refine s_iaddN C 695 dL_law_694 rfl ?_
                                      refine s_istore C 697 dL_law_695 rfl rfl rfl ?_
                                      dsimp only [List.set]
                                      refine s_iinc C 700 (nI (k + 1)) dL_law_697 rfl rfl (by rw [← nI_add]; rfl) rfl ?_
                                      dsimp only [List.set]
                                      refine s_goto C 661 dL_law_700 (by decide) ?_
                                      have e9 : cntP (fun w => (pmO mo (tS q7) (tF q7) ((lLn al) w) ((lFl al) w)).isSome) (k + 1) = cntP (fun w => (pmO mo (tS q7) (tF q7) ((lLn al) w) ((lFl al) w)).isSome) k + 0 := by rw [cntP, if_neg (by rw [hnk]; decide)]
                                      have i9 := ih661 (k + 1) (by omega) (by omega)
                                      rw [e9] at i9
                                      exact i9
                      · skip
                        refine s_bipush C 585 (nI 28) dL_law_583 rfl (by decide) ?_
                        refine s_goto C 598 dL_law_585 (by decide) ?_
                        refine s_istore C 600 dL_law_598 rfl rfl rfl ?_
                        dsimp only [List.set]
                        refine s_iload C 602 dL_law_600 rfl rfl ?_
                        refine s_bipush C 604 (nI 27) dL_law_602 rfl (by decide) ?_
                        refine s_icmp_neN C 626 607 dL_law_604 (by decide) rfl (by omega) (by omega) (fun z604 => ?_) (fun z604 => ?_)
                        · skip
                          refine s_iconst C 627 (nI 1) dL_law_626 rfl (by decide) ?_
                          refine s_goto C 631 dL_law_627 (by decide) ?_
                          refine s_istore C 633 dL_law_631 rfl rfl rfl ?_
                          dsimp only [List.set]
                          have hc29 : 28 < 29 := by omega
                          have hc0 : ¬ (28) = 0 := by omega
                          have hcan : 28 = 27 → 0 < tS q ∧ tA q (tS q - 1) ≠ 27 := fun w => by first | omega | exact ⟨by omega, by assumption⟩
                          obtain ⟨hor, hq7, hs7, hd7, he7⟩ := gQ_or (a := 28) hq (by omega) (by omega) hc0 hcan
                          refine s_lload C 635 dL_law_633 rfl rfl ?_
                          refine s_iload C 637 dL_law_635 rfl rfl ?_
                          refine s_if_eqN C 651 640 dL_law_637 (by decide) rfl (by omega) (fun z637 => ?_) (fun z637 => ?_)
                          · skip
                            omega
                          · skip
                            refine s_iload C 642 dL_law_640 rfl rfl ?_
                            refine s_i2lN C 643 dL_law_642 rfl (by omega) ?_
                            refine s_iconst C 644 (nI 5) dL_law_643 rfl (by decide) ?_
                            refine s_iload C 646 dL_law_644 rfl rfl ?_
                            refine s_imulN C 647 dL_law_646 rfl ?_
                            refine s_lshlN C 648 dL_law_647 rfl (by omega) ?_
                            refine s_goto C 652 dL_law_648 (by decide) ?_
                            refine s_lorN C 653 dL_law_652 rfl ?_
                            rw [hor]
                            generalize hq7e : q + 28 * 2 ^ (5 * tS q) = q7 at hq7 hs7 hd7 he7 ⊢
                            refine s_lstore C 655 dL_law_653 rfl rfl rfl ?_
                            dsimp only [List.set]
                            refine s_iconst C 656 (nI 0) dL_law_655 rfl (by decide) ?_
                            refine s_istore C 658 dL_law_656 rfl rfl rfl ?_
                            dsimp only [List.set]
                            refine s_iconst C 659 (nI 0) dL_law_658 rfl (by decide) ?_
                            refine s_istore C 661 dL_law_659 rfl rfl rfl ?_
                            dsimp only [List.set]
                            suffices lp661 : ∀ (fu661 : Nat) (k : Nat), T - k < fu661 → k ≤ T → V X (40 * (26 - n)) (852 * (26 - n)) 661 [some (.ref (G.2.2.2.2.1 0)), some (.ref z), some (.ref qa), some (.ref aa), some (.long (lN q7)), none, some (.int (nI n)), some (.int w9), some (.int w11), some (.int (nI kd)), some (.int (nI (tS q))), some (.int (nI 28)), some (.int (nI 1)), some (.int (nI (cntP (fun w => (pmO mo (tS q7) (tF q7) ((lLn al) w) ((lFl al) w)).isSome) k))), some (.int (nI k)), none, none] [] M9 from lp661 (T + 1) 0 (by omega) (by omega)
                            intro fu661
                            induction fu661 with
                            | zero => intro k hk0 hk; omega
                            | succ fu661 ih661 =>
                              intro k hk0 hk
                              have hcn := cntP_le (P := fun w => (pmO mo (tS q7) (tF q7) ((lLn al) w) ((lFl al) w)).isSome) k
                              refine s_iload C 663 dL_law_661 rfl rfl ?_
                              refine s_aload_n C 664 dL_law_663 rfl rfl ?_
                              refine s_iconst C 665 (nI 0) dL_law_664 rfl (by decide) ?_
                              refine s_iald C 666 dL_law_665 rfl hQ (by omega) (by omega) ?_
                              rw [hQ0]
                              refine s_icmp_geN C 703 669 dL_law_666 (by decide) rfl (by omega) (by omega) (fun z666 => ?_) (fun z666 => ?_)
                              · skip
                                have hkT : k = T := by omega
                                rw [hkT, rk_num (T := T) (mo := mo) (od := od) (ql := tS q7) (q := tF q7) (ln := (lLn al)) (fl := (lFl al)) (us := (lUs Q))]
                                have hrT := (rkN_T (T := T) (mo := mo) (od := od) (ql := tS q7) (q := tF q7) (ln := (lLn al)) (fl := (lFl al)) (us := (lUs Q))).1
                                refine s_aload_n C 704 dL_law_703 rfl rfl ?_
                                refine s_iload C 706 dL_law_704 rfl rfl ?_
                                refine s_invS C 709 (40 * (26 - n)) (852 * (26 - n)) [.ref z] dL_law_706 rfl m_L_30 (l_code (c := 28) (by omega)) rfl rfl rfl ⟨by decide, by decide⟩ (Nat.le_of_ble_eq_true rfl) (by omega) (by omega) ?_
                                rintro _ M50 ⟨rfl, rfl⟩
                                dsimp only [Option.toList, List.cons_append, List.nil_append]
                                have hok7 := as_y hq R3 hc29 hc0 hcan
                                have R37 : agF (tS q + 1) (upd q9 (tS q) (nI (tC (28)))) (tF (q7)) := fun k hk => by by_cases e : k = tS q; (· rw [e, pk_us]; show _ = nI (tC (tA _ _)); rw [he7]); rw [pk_un e, R3 k (by omega)]; exact (tF_A (hd7 k (by omega))).symm
                                refine s_invV C 712 (40 * (26 - n) - 40) (852 * (26 - n) - 852) [] (zR_rv hz) dL_law_709 rfl m_L_140 (z_ask hz) rfl rfl rfl ⟨by decide, by decide⟩ (Nat.le_of_ble_eq_true rfl) (by omega) (by omega) ?_
                                rintro _ M51 ⟨rfl, hz, hF1⟩
                                dsimp only [Option.toList, List.cons_append, List.nil_append]
                                have hQ := hF1.at hQ TZ_q
                                have hA := hF1.at hA TZ_a
                                rw [as_vy hok7, rkN_c R1 R2 R37, ← hs7]
                                simp only [if_pos hok7] at hz
                                rw [← hs7] at hz R37
                                refine s_iload C 714 dL_law_712 rfl rfl ?_
                                refine s_if_eqN C 722 717 dL_law_714 (by decide) rfl (by omega) (fun z714 => ?_) (fun z714 => ?_)
                                · skip
                                  omega
                                · skip
                                  refine s_iload C 719 dL_law_717 rfl rfl ?_
                                  refine s_goto C 724 dL_law_719 (by decide) ?_
                                  refine s_icmp_eqN C 729 727 dL_law_724 (by decide) rfl (by omega) (by omega) (fun z724 => ?_) (fun z724 => ?_)
                                  · skip
                                    have hI7 : lwI G M51 z qa aa T mo od (q7) _ _ := ⟨⟨_, _, _, _, _, _, _, hz, R1, R2, R37⟩, hQ, hA, hQ0, hQ1, hQ2, hT6, hm, ho, hg, hne, hq7⟩
                                    refine s_goto C 907 dL_law_729 (by decide) ?_
                                    refine V.drop 7 ?_
                                    dsimp only [List.set]
                                    refine V.drop 9 ?_
                                    dsimp only [List.set]
                                    refine V.drop 10 ?_
                                    dsimp only [List.set]
                                    refine V.drop 11 ?_
                                    dsimp only [List.set]
                                    refine V.drop 12 ?_
                                    dsimp only [List.set]
                                    refine V.drop 13 ?_
                                    dsimp only [List.set]
                                    refine V.drop 14 ?_
                                    dsimp only [List.set]
                                    refine V.widen (bc' := 40 * (26 - (n + 1))) (bs' := 852 * (26 - (n + 1))) (by omega) (by omega) ?_
                                    exact j907 _ _ _ _ _ _ _ _ hI7
                                  · skip
                                    exact absurd rfl z724
                              · skip
                                refine s_iload C 671 dL_law_669 rfl rfl ?_
                                refine s_aload_n C 672 dL_law_671 rfl rfl ?_
                                refine s_iload C 674 dL_law_672 rfl rfl ?_
                                refine s_laldN C 675 dL_law_674 rfl hA (by omega) (by omega) ?_
                                refine s_lload C 677 dL_law_675 rfl rfl ?_
                                refine s_invS C 680 (40 * (26 - n)) (852 * (26 - n)) [.long (lN (al k)), .int (nI (cntP (fun w => (pmO mo (tS q7) (tF q7) ((lLn al) w) ((lFl al) w)).isSome) k))] dL_law_677 rfl m_L_48 (l_cut hq7.1.lt) rfl rfl rfl ⟨by decide, by decide⟩ (Nat.le_of_ble_eq_true rfl) (by omega) (by omega) ?_
                                rintro _ M52 ⟨rfl, rfl⟩
                                dsimp only [Option.toList, List.cons_append, List.nil_append]
                                refine s_aload_n C 681 dL_law_680 rfl rfl ?_
                                refine s_iconst C 682 (nI 1) dL_law_681 rfl (by decide) ?_
                                refine s_iald C 683 dL_law_682 rfl hQ (by omega) (by omega) ?_
                                rw [hQ1]
                                have hgk := hg k (by omega)
                                have hck : plT (al k) (tCut q7) mo = pmO mo (tS q7) (tF q7) ((lLn al) k) ((lFl al) k) := plT_cut hq7
                                have h26 : ∀ j, pmO mo (tS q7) (tF q7) ((lLn al) k) ((lFl al) k) = some j → j < 26 := fun j hj => plT_26 hgk (hck.trans hj)
                                have hck9 := tCut_ok hq7
                                refine s_invS C 686 (40 * (26 - n)) (852 * (26 - n)) [.int (nI (cntP (fun w => (pmO mo (tS q7) (tF q7) ((lLn al) w) ((lFl al) w)).isSome) k))] dL_law_683 rfl m_L_38 (l_place hgk hm hck9.1.lt hck9.2.1) rfl rfl rfl ⟨by decide, by decide⟩ (Nat.le_of_ble_eq_true rfl) (by omega) (by omega) ?_
                                rintro _ M53 ⟨rfl, rfl⟩
                                dsimp only [Option.toList, List.cons_append, List.nil_append]
                                rw [hck]
                                refine s_if_ge C 693 689 dL_law_686 (by decide) rfl (fun z686 => ?_) (fun z686 => ?_)
                                · skip
                                  obtain ⟨pk, hpk⟩ := oN_s ((oJ_ge h26).mp z686)
                                  have hsk : (pmO mo (tS q7) (tF q7) ((lLn al) k) ((lFl al) k)).isSome = true := by rw [hpk]; rfl
                                  refine s_iconst C 694 (nI 1) dL_law_693 rfl (by decide) ?_
                                  refine s_iaddN C 695 dL_law_694 rfl ?_
                                  refine s_istore C 697 dL_law_695 rfl rfl rfl ?_
                                  dsimp only [List.set]
                                  refine s_iinc C 700 (nI (k + 1)) dL_law_697 rfl rfl (by rw [← nI_add]; rfl) rfl ?_
                                  dsimp only [List.set]
                                  refine s_goto C 661 dL_law_700 (by decide) ?_
                                  have e9 : cntP (fun w => (pmO mo (tS q7) (tF q7) ((lLn al) w) ((lFl al) w)).isSome) (k + 1) = cntP (fun w => (pmO mo (tS q7) (tF q7) ((lLn al) w) ((lFl al) w)).isSome) k + 1 := by rw [cntP, if_pos hsk]
                                  have i9 := ih661 (k + 1) (by omega) (by omega)
                                  rw [e9] at i9
                                  exact i9
                                · skip
                                  have hnk : (pmO mo (tS q7) (tF q7) ((lLn al) k) ((lFl al) k)).isSome = false := by cases e : pmO mo (tS q7) (tF q7) ((lLn al) k) ((lFl al) k) with | none => rfl | some j => exact absurd ((oJ_ge h26).mpr (by rw [e]; exact fun w => by cases w)) z686
                                  refine s_iconst C 690 (nI 0) dL_law_689 rfl (by decide) ?_
                                  refine s_goto C 694 dL_law_690 (by decide) ?_
                                  refine s_iaddN C 695 dL_law_694 rfl ?_
                                  refine s_istore C 697 dL_law_695 rfl rfl rfl ?_
                                  dsimp only [List.set]
                                  refine s_iinc C 700 (nI (k + 1)) dL_law_697 rfl rfl (by rw [← nI_add]; rfl) rfl ?_
                                  dsimp only [List.set]
                                  refine s_goto C 661 dL_law_700 (by decide) ?_
                                  have e9 : cntP (fun w => (pmO mo (tS q7) (tF q7) ((lLn al) w) ((lFl al) w)).isSome) (k + 1) = cntP (fun w => (pmO mo (tS q7) (tF q7) ((lLn al) w) ((lFl al) w)).isSome) k + 0 := by rw [cntP, if_neg (by rw [hnk]; decide)]
                                  have i9 := ih661 (k + 1) (by omega) (by omega)
                                  rw [e9] at i9
                                  exact i9
                        · skip
                          omega
                    · skip
                      refine s_bipush C 568 (nI 27) dL_law_566 rfl (by decide) ?_
                      refine s_goto C 598 dL_law_568 (by decide) ?_
                      refine s_istore C 600 dL_law_598 rfl rfl rfl ?_
                      dsimp only [List.set]
                      refine s_iload C 602 dL_law_600 rfl rfl ?_
                      refine s_bipush C 604 (nI 27) dL_law_602 rfl (by decide) ?_
                      refine s_icmp_neN C 626 607 dL_law_604 (by decide) rfl (by omega) (by omega) (fun z604 => ?_) (fun z604 => ?_)
                      · skip
                        omega
                      · skip
                        refine s_iload C 609 dL_law_607 rfl rfl ?_
                        refine s_if_leN C 630 612 dL_law_609 (by decide) rfl (by omega) (fun z609 => ?_) (fun z609 => ?_)
                        · skip
                          refine s_iconst C 631 (nI 0) dL_law_630 rfl (by decide) ?_
                          refine s_istore C 633 dL_law_631 rfl rfl rfl ?_
                          dsimp only [List.set]
                          have hc29 : 27 < 29 := by omega
                          have hc0 : ¬ (27) = 0 := by omega
                          have hq7 := hq
                          have hcann : ¬ (0 < tS q ∧ tA q (tS q - 1) ≠ 27) := by omega
                          refine s_lload C 635 dL_law_633 rfl rfl ?_
                          refine s_iload C 637 dL_law_635 rfl rfl ?_
                          refine s_if_eqN C 651 640 dL_law_637 (by decide) rfl (by omega) (fun z637 => ?_) (fun z637 => ?_)
                          · skip
                            refine s_lconst C 652 (lN 0) dL_law_651 rfl rfl ?_
                            refine s_lorN C 653 dL_law_652 rfl ?_
                            rw [show q ||| 0 = q from Nat.or_zero q]
                            refine s_lstore C 655 dL_law_653 rfl rfl rfl ?_
                            dsimp only [List.set]
                            refine s_iconst C 656 (nI 0) dL_law_655 rfl (by decide) ?_
                            refine s_istore C 658 dL_law_656 rfl rfl rfl ?_
                            dsimp only [List.set]
                            refine s_iconst C 659 (nI 0) dL_law_658 rfl (by decide) ?_
                            refine s_istore C 661 dL_law_659 rfl rfl rfl ?_
                            dsimp only [List.set]
                            suffices lp661 : ∀ (fu661 : Nat) (k : Nat), T - k < fu661 → k ≤ T → V X (40 * (26 - n)) (852 * (26 - n)) 661 [some (.ref (G.2.2.2.2.1 0)), some (.ref z), some (.ref qa), some (.ref aa), some (.long (lN q)), none, some (.int (nI n)), some (.int w9), some (.int w11), some (.int (nI kd)), some (.int (nI (tS q))), some (.int (nI 27)), some (.int (nI 0)), some (.int (nI (cntP (fun w => (pmO mo (tS q) (tF q) ((lLn al) w) ((lFl al) w)).isSome) k))), some (.int (nI k)), none, none] [] M9 from lp661 (T + 1) 0 (by omega) (by omega)
                            intro fu661
                            induction fu661 with
                            | zero => intro k hk0 hk; omega
                            | succ fu661 ih661 =>
                              intro k hk0 hk
                              have hcn := cntP_le (P := fun w => (pmO mo (tS q) (tF q) ((lLn al) w) ((lFl al) w)).isSome) k
                              refine s_iload C 663 dL_law_661 rfl rfl ?_
                              refine s_aload_n C 664 dL_law_663 rfl rfl ?_
                              refine s_iconst C 665 (nI 0) dL_law_664 rfl (by decide) ?_
                              refine s_iald C 666 dL_law_665 rfl hQ (by omega) (by omega) ?_
                              rw [hQ0]
                              refine s_icmp_geN C 703 669 dL_law_666 (by decide) rfl (by omega) (by omega) (fun z666 => ?_) (fun z666 => ?_)
                              · skip
                                have hkT : k = T := by omega
                                rw [hkT, rk_num (T := T) (mo := mo) (od := od) (ql := tS q) (q := tF q) (ln := (lLn al)) (fl := (lFl al)) (us := (lUs Q))]
                                have hrT := (rkN_T (T := T) (mo := mo) (od := od) (ql := tS q) (q := tF q) (ln := (lLn al)) (fl := (lFl al)) (us := (lUs Q))).1
                                refine s_aload_n C 704 dL_law_703 rfl rfl ?_
                                refine s_iload C 706 dL_law_704 rfl rfl ?_
                                refine s_invS C 709 (40 * (26 - n)) (852 * (26 - n)) [.ref z] dL_law_706 rfl m_L_30 (l_code (c := 27) (by omega)) rfl rfl rfl ⟨by decide, by decide⟩ (Nat.le_of_ble_eq_true rfl) (by omega) (by omega) ?_
                                rintro _ M54 ⟨rfl, rfl⟩
                                dsimp only [Option.toList, List.cons_append, List.nil_append]
                                have hok7 := as_n hq R3 hc29 hc0 (by omega) hcann
                                refine s_invV C 712 (40 * (26 - n) - 40) (852 * (26 - n) - 852) [] (zR_rv hz) dL_law_709 rfl m_L_140 (z_ask hz) rfl rfl rfl ⟨by decide, by decide⟩ (Nat.le_of_ble_eq_true rfl) (by omega) (by omega) ?_
                                rintro _ M55 ⟨rfl, hz, hF1⟩
                                dsimp only [Option.toList, List.cons_append, List.nil_append]
                                have hQ := hF1.at hQ TZ_q
                                have hA := hF1.at hA TZ_a
                                rw [as_vn hok7]
                                simp only [if_neg (show ¬ ((nI (tC (27)) = nI 32 ∨ isL (nI (tC (27))) = true) ∧ ¬ (nI (tC (27)) = nI 32 ∧ qeB (tS q) q9 = false) ∧ tS q < 24) from fun w => w.2.1 hok7)] at hz
                                refine s_iload C 714 dL_law_712 rfl rfl ?_
                                refine s_if_eqN C 722 717 dL_law_714 (by decide) rfl (by omega) (fun z714 => ?_) (fun z714 => ?_)
                                · skip
                                  refine s_bipush C 724 (-3) dL_law_722 rfl (by decide) ?_
                                  refine s_icmp_eq C 729 727 dL_law_724 (by decide) rfl (fun z724 => ?_) (fun z724 => ?_)
                                  · skip
                                    have hI7 : lwI G M55 z qa aa T mo od (q) _ _ := ⟨⟨_, _, _, _, _, _, _, hz, R1, R2, R3⟩, hQ, hA, hQ0, hQ1, hQ2, hT6, hm, ho, hg, hne, hq7⟩
                                    refine s_goto C 907 dL_law_729 (by decide) ?_
                                    refine V.drop 7 ?_
                                    dsimp only [List.set]
                                    refine V.drop 9 ?_
                                    dsimp only [List.set]
                                    refine V.drop 10 ?_
                                    dsimp only [List.set]
                                    refine V.drop 11 ?_
                                    dsimp only [List.set]
                                    refine V.drop 12 ?_
                                    dsimp only [List.set]
                                    refine V.drop 13 ?_
                                    dsimp only [List.set]
                                    refine V.drop 14 ?_
                                    dsimp only [List.set]
                                    refine V.widen (bc' := 40 * (26 - (n + 1))) (bs' := 852 * (26 - (n + 1))) (by omega) (by omega) ?_
                                    exact j907 _ _ _ _ _ _ _ _ hI7
                                  · skip
                                    exact absurd rfl z724
                                · skip
                                  omega
                              · skip
                                refine s_iload C 671 dL_law_669 rfl rfl ?_
                                refine s_aload_n C 672 dL_law_671 rfl rfl ?_
                                refine s_iload C 674 dL_law_672 rfl rfl ?_
                                refine s_laldN C 675 dL_law_674 rfl hA (by omega) (by omega) ?_
                                refine s_lload C 677 dL_law_675 rfl rfl ?_
                                refine s_invS C 680 (40 * (26 - n)) (852 * (26 - n)) [.long (lN (al k)), .int (nI (cntP (fun w => (pmO mo (tS q) (tF q) ((lLn al) w) ((lFl al) w)).isSome) k))] dL_law_677 rfl m_L_48 (l_cut hq7.1.lt) rfl rfl rfl ⟨by decide, by decide⟩ (Nat.le_of_ble_eq_true rfl) (by omega) (by omega) ?_
                                rintro _ M56 ⟨rfl, rfl⟩
                                dsimp only [Option.toList, List.cons_append, List.nil_append]
                                refine s_aload_n C 681 dL_law_680 rfl rfl ?_
                                refine s_iconst C 682 (nI 1) dL_law_681 rfl (by decide) ?_
                                refine s_iald C 683 dL_law_682 rfl hQ (by omega) (by omega) ?_
                                rw [hQ1]
                                have hgk := hg k (by omega)
                                have hck : plT (al k) (tCut q) mo = pmO mo (tS q) (tF q) ((lLn al) k) ((lFl al) k) := plT_cut hq7
                                have h26 : ∀ j, pmO mo (tS q) (tF q) ((lLn al) k) ((lFl al) k) = some j → j < 26 := fun j hj => plT_26 hgk (hck.trans hj)
                                have hck9 := tCut_ok hq7
                                refine s_invS C 686 (40 * (26 - n)) (852 * (26 - n)) [.int (nI (cntP (fun w => (pmO mo (tS q) (tF q) ((lLn al) w) ((lFl al) w)).isSome) k))] dL_law_683 rfl m_L_38 (l_place hgk hm hck9.1.lt hck9.2.1) rfl rfl rfl ⟨by decide, by decide⟩ (Nat.le_of_ble_eq_true rfl) (by omega) (by omega) ?_
                                rintro _ M57 ⟨rfl, rfl⟩
                                dsimp only [Option.toList, List.cons_append, List.nil_append]
                                rw [hck]
                                refine s_if_ge C 693 689 dL_law_686 (by decide) rfl (fun z686 => ?_) (fun z686 => ?_)
                                · skip
                                  obtain ⟨pk, hpk⟩ := oN_s ((oJ_ge h26).mp z686)
                                  have hsk : (pmO mo (tS q) (tF q) ((lLn al) k) ((lFl al) k)).isSome = true := by rw [hpk]; rfl
                                  refine s_iconst C 694 (nI 1) dL_law_693 rfl (by decide) ?_
                                  refine s_iaddN C 695 dL_law_694 rfl ?_
                                  refine s_istore C 697 dL_law_695 rfl rfl rfl ?_
                                  dsimp only [List.set]
                                  refine s_iinc C 700 (nI (k + 1)) dL_law_697 rfl rfl (by rw [← nI_add]; rfl) rfl ?_
                                  dsimp only [List.set]
                                  refine s_goto C 661 dL_law_700 (by decide) ?_
                                  have e9 : cntP (fun w => (pmO mo (tS q) (tF q) ((lLn al) w) ((lFl al) w)).isSome) (k + 1) = cntP (fun w => (pmO mo (tS q) (tF q) ((lLn al) w) ((lFl al) w)).isSome) k + 1 := by rw [cntP, if_pos hsk]
                                  have i9 := ih661 (k + 1) (by omega) (by omega)
                                  rw [e9] at i9
                                  exact i9
                                · skip
                                  have hnk : (pmO mo (tS q) (tF q) ((lLn al) k) ((lFl al) k)).isSome = false := by cases e : pmO mo (tS q) (tF q) ((lLn al) k) ((lFl al) k) with | none => rfl | some j => exact absurd ((oJ_ge h26).mpr (by rw [e]; exact fun w => by cases w)) z686
                                  refine s_iconst C 690 (nI 0) dL_law_689 rfl (by decide) ?_
                                  refine s_goto C 694 dL_law_690 (by decide) ?_
                                  refine s_iaddN C 695 dL_law_694 rfl ?_
                                  refine s_istore C 697 dL_law_695 rfl rfl rfl ?_
                                  dsimp only [List.set]
                                  refine s_iinc C 700 (nI (k + 1)) dL_law_697 rfl rfl (by rw [← nI_add]; rfl) rfl ?_
                                  dsimp only [List.set]
                                  refine s_goto C 661 dL_law_700 (by decide) ?_
                                  have e9 : cntP (fun w => (pmO mo (tS q) (tF q) ((lLn al) w) ((lFl al) w)).isSome) (k + 1) = cntP (fun w => (pmO mo (tS q) (tF q) ((lLn al) w) ((lFl al) w)).isSome) k + 0 := by rw [cntP, if_neg (by rw [hnk]; decide)]
                                  have i9 := ih661 (k + 1) (by omega) (by omega)
                                  rw [e9] at i9
                                  exact i9
                          · skip
                            omega
                        · skip
                          refine s_lload C 614 dL_law_612 rfl rfl ?_
                          refine s_iload C 616 dL_law_614 rfl rfl ?_
                          refine s_iconst C 617 (nI 1) dL_law_616 rfl (by decide) ?_
                          refine s_isubN C 618 dL_law_617 rfl (by omega) ?_
                          refine s_invS C 621 (40 * (26 - n)) (852 * (26 - n)) [] dL_law_618 rfl m_L_12 (l_at (t := q) (k := (tS q) - 1) (by first | exact hq.1.lt | exact hnt.g.lt) (by omega)) rfl rfl rfl ⟨by decide, by decide⟩ (Nat.le_of_ble_eq_true rfl) (by omega) (by omega) ?_
                          rintro _ M58 ⟨rfl, rfl⟩
                          dsimp only [Option.toList, List.cons_append, List.nil_append]
                          refine s_bipush C 623 (nI 27) dL_law_621 rfl (by decide) ?_
                          refine s_icmp_eqN C 630 626 dL_law_623 (by decide) rfl (by omega) (by omega) (fun z623 => ?_) (fun z623 => ?_)
                          · skip
                            refine s_iconst C 631 (nI 0) dL_law_630 rfl (by decide) ?_
                            refine s_istore C 633 dL_law_631 rfl rfl rfl ?_
                            dsimp only [List.set]
                            have hc29 : 27 < 29 := by omega
                            have hc0 : ¬ (27) = 0 := by omega
                            have hq7 := hq
                            have hcann : ¬ (0 < tS q ∧ tA q (tS q - 1) ≠ 27) := by omega
                            refine s_lload C 635 dL_law_633 rfl rfl ?_
                            refine s_iload C 637 dL_law_635 rfl rfl ?_
                            refine s_if_eqN C 651 640 dL_law_637 (by decide) rfl (by omega) (fun z637 => ?_) (fun z637 => ?_)
                            · skip
                              refine s_lconst C 652 (lN 0) dL_law_651 rfl rfl ?_
                              refine s_lorN C 653 dL_law_652 rfl ?_
                              rw [show q ||| 0 = q from Nat.or_zero q]
                              refine s_lstore C 655 dL_law_653 rfl rfl rfl ?_
                              dsimp only [List.set]
                              refine s_iconst C 656 (nI 0) dL_law_655 rfl (by decide) ?_
                              refine s_istore C 658 dL_law_656 rfl rfl rfl ?_
                              dsimp only [List.set]
                              refine s_iconst C 659 (nI 0) dL_law_658 rfl (by decide) ?_
                              refine s_istore C 661 dL_law_659 rfl rfl rfl ?_
                              dsimp only [List.set]
                              suffices lp661 : ∀ (fu661 : Nat) (k : Nat), T - k < fu661 → k ≤ T → V X (40 * (26 - n)) (852 * (26 - n)) 661 [some (.ref (G.2.2.2.2.1 0)), some (.ref z), some (.ref qa), some (.ref aa), some (.long (lN q)), none, some (.int (nI n)), some (.int w9), some (.int w11), some (.int (nI kd)), some (.int (nI (tS q))), some (.int (nI 27)), some (.int (nI 0)), some (.int (nI (cntP (fun w => (pmO mo (tS q) (tF q) ((lLn al) w) ((lFl al) w)).isSome) k))), some (.int (nI k)), none, none] [] M9 from lp661 (T + 1) 0 (by omega) (by omega)
                              intro fu661
                              induction fu661 with
                              | zero => intro k hk0 hk; omega
                              | succ fu661 ih661 =>
                                intro k hk0 hk
                                have hcn := cntP_le (P := fun w => (pmO mo (tS q) (tF q) ((lLn al) w) ((lFl al) w)).isSome) k
                                refine s_iload C 663 dL_law_661 rfl rfl ?_
                                refine s_aload_n C 664 dL_law_663 rfl rfl ?_
                                refine s_iconst C 665 (nI 0) dL_law_664 rfl (by decide) ?_
                                refine s_iald C 666 dL_law_665 rfl hQ (by omega) (by omega) ?_
                                rw [hQ0]
                                refine s_icmp_geN C 703 669 dL_law_666 (by decide) rfl (by omega) (by omega) (fun z666 => ?_) (fun z666 => ?_)
                                · skip
                                  have hkT : k = T := by omega
                                  rw [hkT, rk_num (T := T) (mo := mo) (od := od) (ql := tS q) (q := tF q) (ln := (lLn al)) (fl := (lFl al)) (us := (lUs Q))]
                                  have hrT := (rkN_T (T := T) (mo := mo) (od := od) (ql := tS q) (q := tF q) (ln := (lLn al)) (fl := (lFl al)) (us := (lUs Q))).1
                                  refine s_aload_n C 704 dL_law_703 rfl rfl ?_
                                  refine s_iload C 706 dL_law_704 rfl rfl ?_
                                  refine s_invS C 709 (40 * (26 - n)) (852 * (26 - n)) [.ref z] dL_law_706 rfl m_L_30 (l_code (c := 27) (by omega)) rfl rfl rfl ⟨by decide, by decide⟩ (Nat.le_of_ble_eq_true rfl) (by omega) (by omega) ?_
                                  rintro _ M59 ⟨rfl, rfl⟩
                                  dsimp only [Option.toList, List.cons_append, List.nil_append]
                                  have hok7 := as_n hq R3 hc29 hc0 (by omega) hcann
                                  refine s_invV C 712 (40 * (26 - n) - 40) (852 * (26 - n) - 852) [] (zR_rv hz) dL_law_709 rfl m_L_140 (z_ask hz) rfl rfl rfl ⟨by decide, by decide⟩ (Nat.le_of_ble_eq_true rfl) (by omega) (by omega) ?_
                                  rintro _ M60 ⟨rfl, hz, hF1⟩
                                  dsimp only [Option.toList, List.cons_append, List.nil_append]
                                  have hQ := hF1.at hQ TZ_q
                                  have hA := hF1.at hA TZ_a
                                  rw [as_vn hok7]
                                  simp only [if_neg (show ¬ ((nI (tC (27)) = nI 32 ∨ isL (nI (tC (27))) = true) ∧ ¬ (nI (tC (27)) = nI 32 ∧ qeB (tS q) q9 = false) ∧ tS q < 24) from fun w => w.2.1 hok7)] at hz
                                  refine s_iload C 714 dL_law_712 rfl rfl ?_
                                  refine s_if_eqN C 722 717 dL_law_714 (by decide) rfl (by omega) (fun z714 => ?_) (fun z714 => ?_)
                                  · skip
                                    refine s_bipush C 724 (-3) dL_law_722 rfl (by decide) ?_
                                    refine s_icmp_eq C 729 727 dL_law_724 (by decide) rfl (fun z724 => ?_) (fun z724 => ?_)
                                    · skip
                                      have hI7 : lwI G M60 z qa aa T mo od (q) _ _ := ⟨⟨_, _, _, _, _, _, _, hz, R1, R2, R3⟩, hQ, hA, hQ0, hQ1, hQ2, hT6, hm, ho, hg, hne, hq7⟩
                                      refine s_goto C 907 dL_law_729 (by decide) ?_
                                      refine V.drop 7 ?_
                                      dsimp only [List.set]
                                      refine V.drop 9 ?_
                                      dsimp only [List.set]
                                      refine V.drop 10 ?_
                                      dsimp only [List.set]
                                      refine V.drop 11 ?_
                                      dsimp only [List.set]
                                      refine V.drop 12 ?_
                                      dsimp only [List.set]
                                      refine V.drop 13 ?_
                                      dsimp only [List.set]
                                      refine V.drop 14 ?_
                                      dsimp only [List.set]
                                      refine V.widen (bc' := 40 * (26 - (n + 1))) (bs' := 852 * (26 - (n + 1))) (by omega) (by omega) ?_
                                      exact j907 _ _ _ _ _ _ _ _ hI7
                                    · skip
                                      exact absurd rfl z724
                                  · skip
                                    omega
                                · skip
                                  refine s_iload C 671 dL_law_669 rfl rfl ?_
                                  refine s_aload_n C 672 dL_law_671 rfl rfl ?_
                                  refine s_iload C 674 dL_law_672 rfl rfl ?_
                                  refine s_laldN C 675 dL_law_674 rfl hA (by omega) (by omega) ?_
                                  refine s_lload C 677 dL_law_675 rfl rfl ?_
                                  refine s_invS C 680 (40 * (26 - n)) (852 * (26 - n)) [.long (lN (al k)), .int (nI (cntP (fun w => (pmO mo (tS q) (tF q) ((lLn al) w) ((lFl al) w)).isSome) k))] dL_law_677 rfl m_L_48 (l_cut hq7.1.lt) rfl rfl rfl ⟨by decide, by decide⟩ (Nat.le_of_ble_eq_true rfl) (by omega) (by omega) ?_
                                  rintro _ M61 ⟨rfl, rfl⟩
                                  dsimp only [Option.toList, List.cons_append, List.nil_append]
                                  refine s_aload_n C 681 dL_law_680 rfl rfl ?_
                                  refine s_iconst C 682 (nI 1) dL_law_681 rfl (by decide) ?_
                                  refine s_iald C 683 dL_law_682 rfl hQ (by omega) (by omega) ?_
                                  rw [hQ1]
                                  have hgk := hg k (by omega)
                                  have hck : plT (al k) (tCut q) mo = pmO mo (tS q) (tF q) ((lLn al) k) ((lFl al) k) := plT_cut hq7
                                  have h26 : ∀ j, pmO mo (tS q) (tF q) ((lLn al) k) ((lFl al) k) = some j → j < 26 := fun j hj => plT_26 hgk (hck.trans hj)
                                  have hck9 := tCut_ok hq7
                                  refine s_invS C 686 (40 * (26 - n)) (852 * (26 - n)) [.int (nI (cntP (fun w => (pmO mo (tS q) (tF q) ((lLn al) w) ((lFl al) w)).isSome) k))] dL_law_683 rfl m_L_38 (l_place hgk hm hck9.1.lt hck9.2.1) rfl rfl rfl ⟨by decide, by decide⟩ (Nat.le_of_ble_eq_true rfl) (by omega) (by omega) ?_
                                  rintro _ M62 ⟨rfl, rfl⟩
                                  dsimp only [Option.toList, List.cons_append, List.nil_append]
                                  rw [hck]
                                  refine s_if_ge C 693 689 dL_law_686 (by decide) rfl (fun z686 => ?_) (fun z686 => ?_)
                                  · skip
                                    obtain ⟨pk, hpk⟩ := oN_s ((oJ_ge h26).mp z686)
                                    have hsk : (pmO mo (tS q) (tF q) ((lLn al) k) ((lFl al) k)).isSome = true := by rw [hpk]; rfl
                                    refine s_iconst C 694 (nI 1) dL_law_693 rfl (by decide) ?_
                                    refine s_iaddN C 695 dL_law_694 rfl ?_
                                    refine s_istore C 697 dL_law_695 rfl rfl rfl ?_
                                    dsimp only [List.set]
                                    refine s_iinc C 700 (nI (k + 1)) dL_law_697 rfl rfl (by rw [← nI_add]; rfl) rfl ?_
                                    dsimp only [List.set]
                                    refine s_goto C 661 dL_law_700 (by decide) ?_
                                    have e9 : cntP (fun w => (pmO mo (tS q) (tF q) ((lLn al) w) ((lFl al) w)).isSome) (k + 1) = cntP (fun w => (pmO mo (tS q) (tF q) ((lLn al) w) ((lFl al) w)).isSome) k + 1 := by rw [cntP, if_pos hsk]
                                    have i9 := ih661 (k + 1) (by omega) (by omega)
                                    rw [e9] at i9
                                    exact i9
                                  · skip
                                    have hnk : (pmO mo (tS q) (tF q) ((lLn al) k) ((lFl al) k)).isSome = false := by cases e : pmO mo (tS q) (tF q) ((lLn al) k) ((lFl al) k) with | none => rfl | some j => exact absurd ((oJ_ge h26).mpr (by rw [e]; exact fun w => by cases w)) z686
                                    refine s_iconst C 690 (nI 0) dL_law_689 rfl (by decide) ?_
                                    refine s_goto C 694 dL_law_690 (by decide) ?_
                                    refine s_iaddN C 695 dL_law_694 rfl ?_
                                    refine s_istore C 697 dL_law_695 rfl rfl rfl ?_
                                    dsimp only [List.set]
                                    refine s_iinc C 700 (nI (k + 1)) dL_law_697 rfl rfl (by rw [← nI_add]; rfl) rfl ?_
                                    dsimp only [List.set]
                                    refine s_goto C 661 dL_law_700 (by decide) ?_
                                    have e9 : cntP (fun w => (pmO mo (tS q) (tF q) ((lLn al) w) ((lFl al) w)).isSome) (k + 1) = cntP (fun w => (pmO mo (tS q) (tF q) ((lLn al) w) ((lFl al) w)).isSome) k + 0 := by rw [cntP, if_neg (by rw [hnk]; decide)]
                                    have i9 := ih661 (k + 1) (by omega) (by omega)
                                    rw [e9] at i9
                                    exact i9
                            · skip
                              omega
                          · skip
                            refine s_iconst C 627 (nI 1) dL_law_626 rfl (by decide) ?_
                            refine s_goto C 631 dL_law_627 (by decide) ?_
                            refine s_istore C 633 dL_law_631 rfl rfl rfl ?_
                            dsimp only [List.set]
                            have hc29 : 27 < 29 := by omega
                            have hc0 : ¬ (27) = 0 := by omega
                            have hcan : 27 = 27 → 0 < tS q ∧ tA q (tS q - 1) ≠ 27 := fun w => by first | omega | exact ⟨by omega, by assumption⟩
                            obtain ⟨hor, hq7, hs7, hd7, he7⟩ := gQ_or (a := 27) hq (by omega) (by omega) hc0 hcan
                            refine s_lload C 635 dL_law_633 rfl rfl ?_
                            refine s_iload C 637 dL_law_635 rfl rfl ?_
                            refine s_if_eqN C 651 640 dL_law_637 (by decide) rfl (by omega) (fun z637 => ?_) (fun z637 => ?_)
                            · skip
                              omega
                            · skip
                              refine s_iload C 642 dL_law_640 rfl rfl ?_
                              refine s_i2lN C 643 dL_law_642 rfl (by omega) ?_
                              refine s_iconst C 644 (nI 5) dL_law_643 rfl (by decide) ?_
                              refine s_iload C 646 dL_law_644 rfl rfl ?_
                              refine s_imulN C 647 dL_law_646 rfl ?_
                              refine s_lshlN C 648 dL_law_647 rfl (by omega) ?_
                              refine s_goto C 652 dL_law_648 (by decide) ?_
                              refine s_lorN C 653 dL_law_652 rfl ?_
                              rw [hor]
                              generalize hq7e : q + 27 * 2 ^ (5 * tS q) = q7 at hq7 hs7 hd7 he7 ⊢
                              refine s_lstore C 655 dL_law_653 rfl rfl rfl ?_
                              dsimp only [List.set]
                              refine s_iconst C 656 (nI 0) dL_law_655 rfl (by decide) ?_
                              refine s_istore C 658 dL_law_656 rfl rfl rfl ?_
                              dsimp only [List.set]
                              refine s_iconst C 659 (nI 0) dL_law_658 rfl (by decide) ?_
                              refine s_istore C 661 dL_law_659 rfl rfl rfl ?_
                              dsimp only [List.set]
                              suffices lp661 : ∀ (fu661 : Nat) (k : Nat), T - k < fu661 → k ≤ T → V X (40 * (26 - n)) (852 * (26 - n)) 661 [some (.ref (G.2.2.2.2.1 0)), some (.ref z), some (.ref qa), some (.ref aa), some (.long (lN q7)), none, some (.int (nI n)), some (.int w9), some (.int w11), some (.int (nI kd)), some (.int (nI (tS q))), some (.int (nI 27)), some (.int (nI 1)), some (.int (nI (cntP (fun w => (pmO mo (tS q7) (tF q7) ((lLn al) w) ((lFl al) w)).isSome) k))), some (.int (nI k)), none, none] [] M9 from lp661 (T + 1) 0 (by omega) (by omega)
                              intro fu661
                              induction fu661 with
                              | zero => intro k hk0 hk; omega
                              | succ fu661 ih661 =>
                                intro k hk0 hk
                                have hcn := cntP_le (P := fun w => (pmO mo (tS q7) (tF q7) ((lLn al) w) ((lFl al) w)).isSome) k
                                refine s_iload C 663 dL_law_661 rfl rfl ?_
                                refine s_aload_n C 664 dL_law_663 rfl rfl ?_
                                refine s_iconst C 665 (nI 0) dL_law_664 rfl (by decide) ?_
                                refine s_iald C 666 dL_law_665 rfl hQ (by omega) (by omega) ?_
                                rw [hQ0]
                                refine s_icmp_geN C 703 669 dL_law_666 (by decide) rfl (by omega) (by omega) (fun z666 => ?_) (fun z666 => ?_)
                                · skip
                                  have hkT : k = T := by omega
                                  rw [hkT, rk_num (T := T) (mo := mo) (od := od) (ql := tS q7) (q := tF q7) (ln := (lLn al)) (fl := (lFl al)) (us := (lUs Q))]
                                  have hrT := (rkN_T (T := T) (mo := mo) (od := od) (ql := tS q7) (q := tF q7) (ln := (lLn al)) (fl := (lFl al)) (us := (lUs Q))).1
                                  refine s_aload_n C 704 dL_law_703 rfl rfl ?_
                                  refine s_iload C 706 dL_law_704 rfl rfl ?_
                                  refine s_invS C 709 (40 * (26 - n)) (852 * (26 - n)) [.ref z] dL_law_706 rfl m_L_30 (l_code (c := 27) (by omega)) rfl rfl rfl ⟨by decide, by decide⟩ (Nat.le_of_ble_eq_true rfl) (by omega) (by omega) ?_
                                  rintro _ M63 ⟨rfl, rfl⟩
                                  dsimp only [Option.toList, List.cons_append, List.nil_append]
                                  have hok7 := as_y hq R3 hc29 hc0 hcan
                                  have R37 : agF (tS q + 1) (upd q9 (tS q) (nI (tC (27)))) (tF (q7)) := fun k hk => by by_cases e : k = tS q; (· rw [e, pk_us]; show _ = nI (tC (tA _ _)); rw [he7]); rw [pk_un e, R3 k (by omega)]; exact (tF_A (hd7 k (by omega))).symm
                                  refine s_invV C 712 (40 * (26 - n) - 40) (852 * (26 - n) - 852) [] (zR_rv hz) dL_law_709 rfl m_L_140 (z_ask hz) rfl rfl rfl ⟨by decide, by decide⟩ (Nat.le_of_ble_eq_true rfl) (by omega) (by omega) ?_
                                  rintro _ M64 ⟨rfl, hz, hF1⟩
                                  dsimp only [Option.toList, List.cons_append, List.nil_append]
                                  have hQ := hF1.at hQ TZ_q
                                  have hA := hF1.at hA TZ_a
                                  rw [as_vy hok7, rkN_c R1 R2 R37, ← hs7]
                                  simp only [if_pos hok7] at hz
                                  rw [← hs7] at hz R37
                                  refine s_iload C 714 dL_law_712 rfl rfl ?_
                                  refine s_if_eqN C 722 717 dL_law_714 (by decide) rfl (by omega) (fun z714 => ?_) (fun z714 => ?_)
                                  · skip
                                    omega
                                  · skip
                                    refine s_iload C 719 dL_law_717 rfl rfl ?_
                                    refine s_goto C 724 dL_law_719 (by decide) ?_
                                    refine s_icmp_eqN C 729 727 dL_law_724 (by decide) rfl (by omega) (by omega) (fun z724 => ?_) (fun z724 => ?_)
                                    · skip
                                      have hI7 : lwI G M64 z qa aa T mo od (q7) _ _ := ⟨⟨_, _, _, _, _, _, _, hz, R1, R2, R37⟩, hQ, hA, hQ0, hQ1, hQ2, hT6, hm, ho, hg, hne, hq7⟩
                                      refine s_goto C 907 dL_law_729 (by decide) ?_
                                      refine V.drop 7 ?_
                                      dsimp only [List.set]
                                      refine V.drop 9 ?_
                                      dsimp only [List.set]
                                      refine V.drop 10 ?_
                                      dsimp only [List.set]
                                      refine V.drop 11 ?_
                                      dsimp only [List.set]
                                      refine V.drop 12 ?_
                                      dsimp only [List.set]
                                      refine V.drop 13 ?_
                                      dsimp only [List.set]
                                      refine V.drop 14 ?_
                                      dsimp only [List.set]
                                      refine V.widen (bc' := 40 * (26 - (n + 1))) (bs' := 852 * (26 - (n + 1))) (by omega) (by omega) ?_
                                      exact j907 _ _ _ _ _ _ _ _ hI7
                                    · skip
                                      exact absurd rfl z724
                                · skip
                                  refine s_iload C 671 dL_law_669 rfl rfl ?_
                                  refine s_aload_n C 672 dL_law_671 rfl rfl ?_
                                  refine s_iload C 674 dL_law_672 rfl rfl ?_
                                  refine s_laldN C 675 dL_law_674 rfl hA (by omega) (by omega) ?_
                                  refine s_lload C 677 dL_law_675 rfl rfl ?_
                                  refine s_invS C 680 (40 * (26 - n)) (852 * (26 - n)) [.long (lN (al k)), .int (nI (cntP (fun w => (pmO mo (tS q7) (tF q7) ((lLn al) w) ((lFl al) w)).isSome) k))] dL_law_677 rfl m_L_48 (l_cut hq7.1.lt) rfl rfl rfl ⟨by decide, by decide⟩ (Nat.le_of_ble_eq_true rfl) (by omega) (by omega) ?_
                                  rintro _ M65 ⟨rfl, rfl⟩
                                  dsimp only [Option.toList, List.cons_append, List.nil_append]
                                  refine s_aload_n C 681 dL_law_680 rfl rfl ?_
                                  refine s_iconst C 682 (nI 1) dL_law_681 rfl (by decide) ?_
                                  refine s_iald C 683 dL_law_682 rfl hQ (by omega) (by omega) ?_
                                  rw [hQ1]
                                  have hgk := hg k (by omega)
                                  have hck : plT (al k) (tCut q7) mo = pmO mo (tS q7) (tF q7) ((lLn al) k) ((lFl al) k) := plT_cut hq7
                                  have h26 : ∀ j, pmO mo (tS q7) (tF q7) ((lLn al) k) ((lFl al) k) = some j → j < 26 := fun j hj => plT_26 hgk (hck.trans hj)
                                  have hck9 := tCut_ok hq7
                                  refine s_invS C 686 (40 * (26 - n)) (852 * (26 - n)) [.int (nI (cntP (fun w => (pmO mo (tS q7) (tF q7) ((lLn al) w) ((lFl al) w)).isSome) k))] dL_law_683 rfl m_L_38 (l_place hgk hm hck9.1.lt hck9.2.1) rfl rfl rfl ⟨by decide, by decide⟩ (Nat.le_of_ble_eq_true rfl) (by omega) (by omega) ?_
                                  rintro _ M66 ⟨rfl, rfl⟩
                                  dsimp only [Option.toList, List.cons_append, List.nil_append]
                                  rw [hck]
                                  refine s_if_ge C 693 689 dL_law_686 (by decide) rfl (fun z686 => ?_) (fun z686 => ?_)
                                  · skip
                                    obtain ⟨pk, hpk⟩ := oN_s ((oJ_ge h26).mp z686)
                                    have hsk : (pmO mo (tS q7) (tF q7) ((lLn al) k) ((lFl al) k)).isSome = true := by rw [hpk]; rfl
                                    refine s_iconst C 694 (nI 1) dL_law_693 rfl (by decide) ?_
                                    refine s_iaddN C 695 dL_law_694 rfl ?_
                                    refine s_istore C 697 dL_law_695 rfl rfl rfl ?_
                                    dsimp only [List.set]
                                    refine s_iinc C 700 (nI (k + 1)) dL_law_697 rfl rfl (by rw [← nI_add]; rfl) rfl ?_
                                    dsimp only [List.set]
                                    refine s_goto C 661 dL_law_700 (by decide) ?_
                                    have e9 : cntP (fun w => (pmO mo (tS q7) (tF q7) ((lLn al) w) ((lFl al) w)).isSome) (k + 1) = cntP (fun w => (pmO mo (tS q7) (tF q7) ((lLn al) w) ((lFl al) w)).isSome) k + 1 := by rw [cntP, if_pos hsk]
                                    have i9 := ih661 (k + 1) (by omega) (by omega)
                                    rw [e9] at i9
                                    exact i9
                                  · skip
                                    have hnk : (pmO mo (tS q7) (tF q7) ((lLn al) k) ((lFl al) k)).isSome = false := by cases e : pmO mo (tS q7) (tF q7) ((lLn al) k) ((lFl al) k) with | none => rfl | some j => exact absurd ((oJ_ge h26).mpr (by rw [e]; exact fun w => by cases w)) z686
                                    refine s_iconst C 690 (nI 0) dL_law_689 rfl (by decide) ?_
                                    refine s_goto C 694 dL_law_690 (by decide) ?_
                                    refine s_iaddN C 695 dL_law_694 rfl ?_
                                    refine s_istore C 697 dL_law_695 rfl rfl rfl ?_
                                    dsimp only [List.set]
                                    refine s_iinc C 700 (nI (k + 1)) dL_law_697 rfl rfl (by rw [← nI_add]; rfl) rfl ?_
                                    dsimp only [List.set]
                                    refine s_goto C 661 dL_law_700 (by decide) ?_
                                    have e9 : cntP (fun w => (pmO mo (tS q7) (tF q7) ((lLn al) w) ((lFl al) w)).isSome) (k + 1) = cntP (fun w => (pmO mo (tS q7) (tF q7) ((lLn al) w) ((lFl al) w)).isSome) k + 0 := by rw [cntP, if_neg (by rw [hnk]; decide)]
                                    have i9 := ih661 (k + 1) (by omega) (by omega)
                                    rw [e9] at i9
                                    exact i9
                  · skip
                    refine s_goto C 924 dL_law_554 (by decide) ?_
                    refine V.drop 7 ?_
                    dsimp only [List.set]
                    refine V.drop 8 ?_
                    dsimp only [List.set]
                    refine V.drop 9 ?_
                    dsimp only [List.set]
                    refine V.drop 10 ?_
                    dsimp only [List.set]
                    refine V.widen (bc' := 40 * (26 - (n + 1))) (bs' := 852 * (26 - (n + 1))) (by omega) (by omega) ?_
                    refine s_iinc C 927 (nI (n + 1)) dL_law_924 rfl rfl (by rw [← nI_add]; rfl) rfl ?_
                    dsimp only [List.set]
                    refine s_goto C 24 dL_law_927 (by decide) ?_
                    exact ih24 (n + 1) T mo od q Q al _ (by omega) (by omega) hI9
              · skip
                refine s_iload C 512 dL_law_510 rfl rfl ?_
                refine s_iconst C 513 (nI 3) dL_law_512 rfl (by decide) ?_
                refine s_invS C 516 (40 * (26 - n)) (852 * (26 - n)) [] dL_law_513 rfl m_L_70 (l_low (v := w11) (m := 3) (by decide) (by decide)) rfl rfl rfl ⟨by decide, by decide⟩ (Nat.le_of_ble_eq_true rfl) (by omega) (by omega) ?_
                rintro _ M67 ⟨rfl, rfl⟩
                dsimp only [Option.toList, List.cons_append, List.nil_append]
                have hlw_68 := lw_lt (v := w11) (m := 3) (by decide)
                refine s_istore C 518 dL_law_516 rfl rfl rfl ?_
                dsimp only [List.set]
                refine s_aload_n C 519 dL_law_518 rfl rfl ?_
                refine s_iload C 521 dL_law_519 rfl rfl ?_
                refine s_invV C 524 (40 * (26 - n) - 40) (852 * (26 - n) - 852) [] (zR_rv hz) dL_law_521 rfl m_L_137 (z_setOrder hz) rfl rfl rfl ⟨by decide, by decide⟩ (Nat.le_of_ble_eq_true rfl) (by omega) (by omega) ?_
                rintro _ M69 ⟨rfl, hz, hF1⟩
                dsimp only [Option.toList, List.cons_append, List.nil_append]
                have hQ := hF1.at hQ TZ_q
                have hA := hF1.at hA TZ_a
                have hix := isIx_n (show lw w11 3 < 3 by omega) (by omega)
                rw [if_pos hix]
                simp only [if_pos hix, nI_clamp (show lw w11 3 < 2 ^ 31 by omega)] at hz
                refine s_aload_n C 525 dL_law_524 rfl rfl ?_
                refine s_iconst C 526 (nI 2) dL_law_525 rfl (by decide) ?_
                refine s_iald C 527 dL_law_526 rfl hQ (by omega) (by omega) ?_
                rw [hQ2]
                refine s_icmp_eqN C 532 530 dL_law_527 (by decide) rfl (by omega) (by omega) (fun z527 => ?_) (fun z527 => ?_)
                · skip
                  refine s_aload_n C 533 dL_law_532 rfl rfl ?_
                  refine s_iconst C 534 (nI 2) dL_law_533 rfl (by decide) ?_
                  refine s_iload C 536 dL_law_534 rfl rfl ?_
                  refine s_iastU C 537 dL_law_536 rfl hQ (by first | decide | omega) (by omega) (by omega) (fun M70 U71 => ?_)
                  have hz := zR_put hz U71 hQ (by decide)
                  have hA := U71.o hQ hA (by first | decide | omega)
                  have hQ := U71.s
                  have hI7 : lwI G M70 z qa aa T (mo) (lw w11 3) q _ _ := ⟨⟨_, _, _, _, _, _, _, hz, R1, (fun t ht => (R2 t ht).trans (by show Q (3 + t) = upd Q 2 (nI (lw w11 3)) (3 + t); rw [pk_un (by omega)])), R3⟩, hQ, hA, (by rw [pk_un (by omega)]; exact hQ0), (by rw [pk_un (by omega)]; exact hQ1), pk_us, hT6, hm, (by omega), hg, hne, hq⟩
                  refine s_goto C 907 dL_law_537 (by decide) ?_
                  refine V.drop 7 ?_
                  dsimp only [List.set]
                  refine V.drop 9 ?_
                  dsimp only [List.set]
                  refine V.drop 10 ?_
                  dsimp only [List.set]
                  refine V.drop 11 ?_
                  dsimp only [List.set]
                  refine V.widen (bc' := 40 * (26 - (n + 1))) (bs' := 852 * (26 - (n + 1))) (by omega) (by omega) ?_
                  exact j907 _ _ _ _ _ _ _ _ hI7
                · skip
                  exact absurd rfl z527
            · skip
              refine s_iload C 476 dL_law_474 rfl rfl ?_
              refine s_iconst C 477 (nI 4) dL_law_476 rfl (by decide) ?_
              refine s_invS C 480 (40 * (26 - n)) (852 * (26 - n)) [] dL_law_477 rfl m_L_70 (l_low (v := w11) (m := 4) (by decide) (by decide)) rfl rfl rfl ⟨by decide, by decide⟩ (Nat.le_of_ble_eq_true rfl) (by omega) (by omega) ?_
              rintro _ M72 ⟨rfl, rfl⟩
              dsimp only [Option.toList, List.cons_append, List.nil_append]
              have hlw_73 := lw_lt (v := w11) (m := 4) (by decide)
              refine s_istore C 482 dL_law_480 rfl rfl rfl ?_
              dsimp only [List.set]
              refine s_aload_n C 483 dL_law_482 rfl rfl ?_
              refine s_iload C 485 dL_law_483 rfl rfl ?_
              refine s_invV C 488 (40 * (26 - n) - 40) (852 * (26 - n) - 852) [] (zR_rv hz) dL_law_485 rfl m_L_134 (z_setMode hz) rfl rfl rfl ⟨by decide, by decide⟩ (Nat.le_of_ble_eq_true rfl) (by omega) (by omega) ?_
              rintro _ M74 ⟨rfl, hz, hF1⟩
              dsimp only [Option.toList, List.cons_append, List.nil_append]
              have hQ := hF1.at hQ TZ_q
              have hA := hF1.at hA TZ_a
              have hix := isIx_n (show lw w11 4 < 4 by omega) (by omega)
              rw [if_pos hix]
              simp only [if_pos hix, nI_clamp (show lw w11 4 < 2 ^ 31 by omega)] at hz
              refine s_aload_n C 489 dL_law_488 rfl rfl ?_
              refine s_iconst C 490 (nI 1) dL_law_489 rfl (by decide) ?_
              refine s_iald C 491 dL_law_490 rfl hQ (by omega) (by omega) ?_
              rw [hQ1]
              refine s_icmp_eqN C 496 494 dL_law_491 (by decide) rfl (by omega) (by omega) (fun z491 => ?_) (fun z491 => ?_)
              · skip
                refine s_aload_n C 497 dL_law_496 rfl rfl ?_
                refine s_iconst C 498 (nI 1) dL_law_497 rfl (by decide) ?_
                refine s_iload C 500 dL_law_498 rfl rfl ?_
                refine s_iastU C 501 dL_law_500 rfl hQ (by first | decide | omega) (by omega) (by omega) (fun M75 U76 => ?_)
                have hz := zR_put hz U76 hQ (by decide)
                have hA := U76.o hQ hA (by first | decide | omega)
                have hQ := U76.s
                have hI7 : lwI G M75 z qa aa T (lw w11 4) (od) q _ _ := ⟨⟨_, _, _, _, _, _, _, hz, R1, (fun t ht => (R2 t ht).trans (by show Q (3 + t) = upd Q 1 (nI (lw w11 4)) (3 + t); rw [pk_un (by omega)])), R3⟩, hQ, hA, (by rw [pk_un (by omega)]; exact hQ0), pk_us, (by rw [pk_un (by omega)]; exact hQ2), hT6, (by omega), ho, hg, hne, hq⟩
                refine s_goto C 907 dL_law_501 (by decide) ?_
                refine V.drop 7 ?_
                dsimp only [List.set]
                refine V.drop 9 ?_
                dsimp only [List.set]
                refine V.drop 10 ?_
                dsimp only [List.set]
                refine V.drop 11 ?_
                dsimp only [List.set]
                refine V.widen (bc' := 40 * (26 - (n + 1))) (bs' := 852 * (26 - (n + 1))) (by omega) (by omega) ?_
                exact j907 _ _ _ _ _ _ _ _ hI7
              · skip
                exact absurd rfl z491
          · skip
            refine s_iload C 362 dL_law_360 rfl rfl ?_
            refine s_bipush C 364 (nI 6) dL_law_362 rfl (by decide) ?_
            refine s_invS C 367 (40 * (26 - n)) (852 * (26 - n)) [] dL_law_364 rfl m_L_70 (l_low (v := w11) (m := 6) (by decide) (by decide)) rfl rfl rfl ⟨by decide, by decide⟩ (Nat.le_of_ble_eq_true rfl) (by omega) (by omega) ?_
            rintro _ M77 ⟨rfl, rfl⟩
            dsimp only [Option.toList, List.cons_append, List.nil_append]
            have hlw_78 := lw_lt (v := w11) (m := 6) (by decide)
            refine s_istore C 369 dL_law_367 rfl rfl rfl ?_
            dsimp only [List.set]
            refine s_iload C 371 dL_law_369 rfl rfl ?_
            refine s_aload_n C 372 dL_law_371 rfl rfl ?_
            refine s_iconst C 373 (nI 0) dL_law_372 rfl (by decide) ?_
            refine s_iald C 374 dL_law_373 rfl hQ (by omega) (by omega) ?_
            rw [hQ0]
            refine s_icmp_geN C 381 377 dL_law_374 (by decide) rfl (by omega) (by omega) (fun z374 => ?_) (fun z374 => ?_)
            · skip
              refine s_iconst C 382 (nI 0) dL_law_381 rfl (by decide) ?_
              refine s_istore C 384 dL_law_382 rfl rfl rfl ?_
              dsimp only [List.set]
              refine s_iload C 386 dL_law_384 rfl rfl ?_
              refine s_istore C 388 dL_law_386 rfl rfl rfl ?_
              dsimp only [List.set]
              have htl : lw w11 6 < 6 := lw_lt (by decide)
              suffices lp388 : ∀ (fu388 : Nat) (u : Nat) (Q6 : Nat → Int32) (al6 : Nat → Nat) (M6 : mM), 12 - u < fu388 → lw w11 6 ≤ u → (lw w11 6 < T → u < T) → u ≤ 6 → (∀ i, al6 i = if lw w11 6 ≤ i ∧ i < u then al (i + 1) else al i) → (∀ i, Q6 i = if lw w11 6 + 3 ≤ i ∧ i < u + 3 then Q (i + 1) else Q i) → Q6 0 = nI T → Q6 1 = nI mo → Q6 2 = nI od → zR G M6 z (T, mo, od, tS q, q9, ln, fl, us) c hs 0 tg → M6 qa = some (300, .inr (0, 9, .inl Q6)) → M6 aa = some (301, .inr (5, 7, .inr (lA al6))) → V X (40 * (26 - n)) (852 * (26 - n)) 388 [some (.ref (G.2.2.2.2.1 0)), some (.ref z), some (.ref qa), some (.ref aa), some (.long (lN q)), none, some (.int (nI n)), some (.int w9), some (.int w11), some (.int (nI kd)), some (.int (nI (tS q))), some (.int (nI (lw w11 6))), some (.int (nI 0)), some (.int (nI u)), none, none, none] [] M6 from lp388 13 (lw w11 6) _ _ _ (by omega) (Nat.le_refl _) (fun w => w) (by omega) (fun i => by rw [if_neg (by omega)]) (fun i => by rw [if_neg (by omega)]) hQ0 hQ1 hQ2 hz hQ hA
              intro fu388
              induction fu388 with
              | zero => intro u Q6 al6 M6 hu0 hu1 hu2 hu3 ha hc hk0 hk1 hk2 hz hQ hA; omega
              | succ fu388 ih388 =>
                intro u Q6 al6 M6 hu0 hu1 hu2 hu3 ha hc hk0 hk1 hk2 hz hQ hA
                have hu5 : u < 6 ∨ 6 ≤ u := by omega
                refine s_iload C 390 dL_law_388 rfl rfl ?_
                refine s_iconst C 391 (nI 1) dL_law_390 rfl (by decide) ?_
                refine s_iaddN C 392 dL_law_391 rfl ?_
                refine s_aload_n C 393 dL_law_392 rfl rfl ?_
                refine s_iconst C 394 (nI 0) dL_law_393 rfl (by decide) ?_
                refine s_iald C 395 dL_law_394 rfl hQ (by omega) (by omega) ?_
                rw [hk0]
                refine s_icmp_geN C 426 398 dL_law_395 (by decide) rfl (by omega) (by omega) (fun z395 => ?_) (fun z395 => ?_)
                · skip
                  refine s_aload_n C 427 dL_law_426 rfl rfl ?_
                  refine s_iconst C 428 (nI 0) dL_law_427 rfl (by decide) ?_
                  refine s_dup2 C 429 dL_law_428 rfl rfl rfl ?_
                  refine s_iald C 430 dL_law_429 rfl hQ (by omega) (by omega) ?_
                  rw [hk0]
                  refine s_iload C 432 dL_law_430 rfl rfl ?_
                  refine s_if_eqN C 439 435 dL_law_432 (by decide) rfl (by omega) (fun z432 => ?_) (fun z432 => ?_)
                  · skip
                    refine s_iconst C 440 (nI 0) dL_law_439 rfl (by decide) ?_
                    refine s_isubN C 441 dL_law_440 rfl (by omega) ?_
                    refine s_iastU C 442 dL_law_441 rfl hQ (by first | decide | omega) (by omega) (by omega) (fun M79 U80 => ?_)
                    have hz := zR_put hz U80 hQ (by decide)
                    have hA := U80.o hQ hA (by first | decide | omega)
                    have hQ := U80.s
                    refine s_aload_n C 443 dL_law_442 rfl rfl ?_
                    refine s_iload C 445 dL_law_443 rfl rfl ?_
                    refine s_invV C 448 (40 * (26 - n) - 40) (852 * (26 - n) - 852) [] (zR_rv hz) dL_law_445 rfl m_L_131 (z_drop hz) rfl rfl rfl ⟨by decide, by decide⟩ (Nat.le_of_ble_eq_true rfl) (by omega) (by omega) ?_
                    rintro _ M81 ⟨rfl, hz, hF1⟩
                    dsimp only [Option.toList, List.cons_append, List.nil_append]
                    have hQ := hF1.at hQ TZ_q
                    have hA := hF1.at hA TZ_a
                    have hxn : ¬ isIx (nI (lw w11 6)) T = true := by rw [isIx_no (show T ≤ lw w11 6 by omega) (by omega)]; decide
                    rw [if_neg hxn]
                    simp only [if_neg hxn] at hz
                    refine s_iload C 450 dL_law_448 rfl rfl ?_
                    refine s_if_eqN C 459 453 dL_law_450 (by decide) rfl (by omega) (fun z450 => ?_) (fun z450 => ?_)
                    · skip
                      refine s_iconst C 460 (-1) dL_law_459 rfl (by decide) ?_
                      refine s_icmp_eq C 465 463 dL_law_460 (by decide) rfl (fun z460 => ?_) (fun z460 => ?_)
                      · skip
                        have hal : ∀ i, i < T → al6 i = al i := fun i hi => by rw [ha i, if_neg (by omega)]
                        have hqc : ∀ i, i < T → Q6 (3 + i) = Q (3 + i) := fun i hi => by rw [hc (3 + i), if_neg (by omega)]
                        have hI7 : lwI G M81 z qa aa T mo od q _ _ := ⟨⟨_, _, _, _, _, _, _, hz, (fun t ht => ⟨(R1 t ht).1.trans (by show _ = tS (al6 t); rw [hal t ht]), fun k hk => ((R1 t ht).2 k hk).trans (by show _ = tF (al6 t) k; rw [hal t ht])⟩), (fun t ht => (R2 t ht).trans (by show Q (3 + t) = upd Q6 0 (nI (T - 0)) (3 + t); rw [pk_un (by omega), hqc t ht])), R3⟩, hQ, hA, pk_us, (by rw [pk_un (by omega)]; exact hk1), (by rw [pk_un (by omega)]; exact hk2), hT6, hm, ho, (fun i hi => by rw [hal i hi]; exact hg i hi), (fun i j hi hj hij => by rw [hal i hi, hal j hj]; exact hne i j hi hj hij), hq⟩
                        refine s_goto C 907 dL_law_465 (by decide) ?_
                        refine V.drop 7 ?_
                        dsimp only [List.set]
                        refine V.drop 9 ?_
                        dsimp only [List.set]
                        refine V.drop 10 ?_
                        dsimp only [List.set]
                        refine V.drop 11 ?_
                        dsimp only [List.set]
                        refine V.drop 12 ?_
                        dsimp only [List.set]
                        refine V.drop 13 ?_
                        dsimp only [List.set]
                        refine V.widen (bc' := 40 * (26 - (n + 1))) (bs' := 852 * (26 - (n + 1))) (by omega) (by omega) ?_
                        exact j907 _ _ _ _ _ _ _ _ hI7
                      · skip
                        exact absurd rfl z460
                    · skip
                      omega
                  · skip
                    omega
                · skip
                  refine s_aload_n C 399 dL_law_398 rfl rfl ?_
                  refine s_iload C 401 dL_law_399 rfl rfl ?_
                  refine s_aload_n C 402 dL_law_401 rfl rfl ?_
                  refine s_iload C 404 dL_law_402 rfl rfl ?_
                  refine s_iconst C 405 (nI 1) dL_law_404 rfl (by decide) ?_
                  refine s_iaddN C 406 dL_law_405 rfl ?_
                  refine s_laldN C 407 dL_law_406 rfl hA (by omega) (by omega) ?_
                  refine s_lastU C 408 dL_law_407 rfl hA (by first | decide | omega) (by omega) (by omega) (fun M82 U83 => ?_)
                  have hz := zR_put hz U83 hA (by decide)
                  have hQ := U83.o hA hQ (by first | decide | omega)
                  have hA := U83.s
                  refine s_aload_n C 409 dL_law_408 rfl rfl ?_
                  refine s_iconst C 410 (nI 3) dL_law_409 rfl (by decide) ?_
                  refine s_iload C 412 dL_law_410 rfl rfl ?_
                  refine s_iaddN C 413 dL_law_412 rfl ?_
                  refine s_aload_n C 414 dL_law_413 rfl rfl ?_
                  refine s_iconst C 415 (nI 4) dL_law_414 rfl (by decide) ?_
                  refine s_iload C 417 dL_law_415 rfl rfl ?_
                  refine s_iaddN C 418 dL_law_417 rfl ?_
                  refine s_iald C 419 dL_law_418 rfl hQ (by omega) (by omega) ?_
                  refine s_iastU C 420 dL_law_419 rfl hQ (by first | decide | omega) (by omega) (by omega) (fun M84 U85 => ?_)
                  have hz := zR_put hz U85 hQ (by decide)
                  have hA := U85.o hQ hA (by first | decide | omega)
                  have hQ := U85.s
                  refine s_iinc C 423 (nI (u + 1)) dL_law_420 rfl rfl (by rw [← nI_add]; rfl) rfl ?_
                  dsimp only [List.set]
                  refine s_goto C 388 dL_law_423 (by decide) ?_
                  exact ih388 (u + 1) _ _ _ (by omega) (by omega) (fun w => by omega) (by omega) (fun i => by unfold va_up; by_cases e : i = u; (· rw [if_pos e, if_pos (by omega), ha (u + 1), if_neg (by omega), e]); rw [if_neg e, ha i]; by_cases e2 : lw w11 6 ≤ i ∧ i < u; (· rw [if_pos e2, if_pos (by omega)]); rw [if_neg e2, if_neg (by omega)]) (fun i => by unfold upd; by_cases e : i = 3 + u; (· rw [if_pos e, if_pos (by omega), hc (4 + u), if_neg (by omega), e, show 3 + u + 1 = 4 + u by omega]); rw [if_neg e, hc i]; by_cases e2 : lw w11 6 + 3 ≤ i ∧ i < u + 3; (· rw [if_pos e2, if_pos (by omega)]); rw [if_neg e2, if_neg (by omega)]) (by rw [pk_un (by omega)]; exact hk0) (by rw [pk_un (by omega)]; exact hk1) (by rw [pk_un (by omega)]; exact hk2) hz hQ hA
            · skip
              refine s_iconst C 378 (nI 1) dL_law_377 rfl (by decide) ?_
              refine s_goto C 382 dL_law_378 (by decide) ?_
              refine s_istore C 384 dL_law_382 rfl rfl rfl ?_
              dsimp only [List.set]
              refine s_iload C 386 dL_law_384 rfl rfl ?_
              refine s_istore C 388 dL_law_386 rfl rfl rfl ?_
              dsimp only [List.set]
              have htl : lw w11 6 < 6 := lw_lt (by decide)
              suffices lp388 : ∀ (fu388 : Nat) (u : Nat) (Q6 : Nat → Int32) (al6 : Nat → Nat) (M6 : mM), 12 - u < fu388 → lw w11 6 ≤ u → (lw w11 6 < T → u < T) → u ≤ 6 → (∀ i, al6 i = if lw w11 6 ≤ i ∧ i < u then al (i + 1) else al i) → (∀ i, Q6 i = if lw w11 6 + 3 ≤ i ∧ i < u + 3 then Q (i + 1) else Q i) → Q6 0 = nI T → Q6 1 = nI mo → Q6 2 = nI od → zR G M6 z (T, mo, od, tS q, q9, ln, fl, us) c hs 0 tg → M6 qa = some (300, .inr (0, 9, .inl Q6)) → M6 aa = some (301, .inr (5, 7, .inr (lA al6))) → V X (40 * (26 - n)) (852 * (26 - n)) 388 [some (.ref (G.2.2.2.2.1 0)), some (.ref z), some (.ref qa), some (.ref aa), some (.long (lN q)), none, some (.int (nI n)), some (.int w9), some (.int w11), some (.int (nI kd)), some (.int (nI (tS q))), some (.int (nI (lw w11 6))), some (.int (nI 1)), some (.int (nI u)), none, none, none] [] M6 from lp388 13 (lw w11 6) _ _ _ (by omega) (Nat.le_refl _) (fun w => w) (by omega) (fun i => by rw [if_neg (by omega)]) (fun i => by rw [if_neg (by omega)]) hQ0 hQ1 hQ2 hz hQ hA
              intro fu388
              induction fu388 with
              | zero => intro u Q6 al6 M6 hu0 hu1 hu2 hu3 ha hc hk0 hk1 hk2 hz hQ hA; omega
              | succ fu388 ih388 =>
                intro u Q6 al6 M6 hu0 hu1 hu2 hu3 ha hc hk0 hk1 hk2 hz hQ hA
                have hu5 : u < 6 ∨ 6 ≤ u := by omega
                refine s_iload C 390 dL_law_388 rfl rfl ?_
                refine s_iconst C 391 (nI 1) dL_law_390 rfl (by decide) ?_
                refine s_iaddN C 392 dL_law_391 rfl ?_
                refine s_aload_n C 393 dL_law_392 rfl rfl ?_
                refine s_iconst C 394 (nI 0) dL_law_393 rfl (by decide) ?_
                refine s_iald C 395 dL_law_394 rfl hQ (by omega) (by omega) ?_
                rw [hk0]
                refine s_icmp_geN C 426 398 dL_law_395 (by decide) rfl (by omega) (by omega) (fun z395 => ?_) (fun z395 => ?_)
                · skip
                  refine s_aload_n C 427 dL_law_426 rfl rfl ?_
                  refine s_iconst C 428 (nI 0) dL_law_427 rfl (by decide) ?_
                  refine s_dup2 C 429 dL_law_428 rfl rfl rfl ?_
                  refine s_iald C 430 dL_law_429 rfl hQ (by omega) (by omega) ?_
                  rw [hk0]
                  refine s_iload C 432 dL_law_430 rfl rfl ?_
                  refine s_if_eqN C 439 435 dL_law_432 (by decide) rfl (by omega) (fun z432 => ?_) (fun z432 => ?_)
                  · skip
                    omega
                  · skip
                    refine s_iconst C 436 (nI 1) dL_law_435 rfl (by decide) ?_
                    refine s_goto C 440 dL_law_436 (by decide) ?_
                    refine s_isubN C 441 dL_law_440 rfl (by omega) ?_
                    refine s_iastU C 442 dL_law_441 rfl hQ (by first | decide | omega) (by omega) (by omega) (fun M86 U87 => ?_)
                    have hz := zR_put hz U87 hQ (by decide)
                    have hA := U87.o hQ hA (by first | decide | omega)
                    have hQ := U87.s
                    refine s_aload_n C 443 dL_law_442 rfl rfl ?_
                    refine s_iload C 445 dL_law_443 rfl rfl ?_
                    refine s_invV C 448 (40 * (26 - n) - 40) (852 * (26 - n) - 852) [] (zR_rv hz) dL_law_445 rfl m_L_131 (z_drop hz) rfl rfl rfl ⟨by decide, by decide⟩ (Nat.le_of_ble_eq_true rfl) (by omega) (by omega) ?_
                    rintro _ M88 ⟨rfl, hz, hF1⟩
                    dsimp only [Option.toList, List.cons_append, List.nil_append]
                    have hQ := hF1.at hQ TZ_q
                    have hA := hF1.at hA TZ_a
                    rw [if_pos (isIx_n (show lw w11 6 < T by omega) (by omega))]
                    simp only [if_pos (isIx_n (show lw w11 6 < T by omega) (by omega)), nI_clamp (show lw w11 6 < 2 ^ 31 by omega)] at hz
                    refine s_iload C 450 dL_law_448 rfl rfl ?_
                    refine s_if_eqN C 459 453 dL_law_450 (by decide) rfl (by omega) (fun z450 => ?_) (fun z450 => ?_)
                    · skip
                      omega
                    · skip
                      refine s_aload_n C 454 dL_law_453 rfl rfl ?_
                      refine s_iconst C 455 (nI 0) dL_law_454 rfl (by decide) ?_
                      refine s_iald C 456 dL_law_455 rfl hQ (by omega) (by omega) ?_
                      rw [pk_us]
                      refine s_goto C 460 dL_law_456 (by decide) ?_
                      refine s_icmp_eqN C 465 463 dL_law_460 (by decide) rfl (by omega) (by omega) (fun z460 => ?_) (fun z460 => ?_)
                      · skip
                        have ha2 : ∀ i, i < T - 1 → al6 i = if i < lw w11 6 then al i else al (i + 1) := fun i hi => by rw [ha i]; by_cases e : i < lw w11 6; (· rw [if_neg (by omega), if_pos e]); rw [if_pos (by omega), if_neg e]
                        have hc2 : ∀ i, i < T - 1 → Q6 (3 + i) = if i < lw w11 6 then Q (3 + i) else Q (3 + (i + 1)) := fun i hi => by rw [hc (3 + i)]; by_cases e : i < lw w11 6; (· rw [if_neg (by omega), if_pos e]); rw [if_pos (by omega), if_neg e, show 3 + i + 1 = 3 + (i + 1) by omega]
                        have hR1 : agT (T - 1) (dpF ln (lw w11 6)) (lLn al6) (dpF fl (lw w11 6)) (lFl al6) := fun i hi => by unfold dpF; by_cases e : i < lw w11 6; (· rw [if_pos e, if_pos e, show (lLn al6) i = (lLn al) i by (show tS (al6 i) = tS (al i); rw [ha2 i hi, if_pos e]), show (lFl al6) i = (lFl al) i by (show tF (al6 i) = tF (al i); rw [ha2 i hi, if_pos e])]; exact R1 i (by omega)); rw [if_neg e, if_neg e, show (lLn al6) i = (lLn al) (i + 1) by (show tS (al6 i) = tS (al (i + 1)); rw [ha2 i hi, if_neg e]), show (lFl al6) i = (lFl al) (i + 1) by (show tF (al6 i) = tF (al (i + 1)); rw [ha2 i hi, if_neg e])]; exact R1 (i + 1) (by omega)
                        have hR2 : agU (T - 1) (dpF us (lw w11 6)) (lUs (upd Q6 0 (nI (T - 1)))) := fun i hi => by show dpF us (lw w11 6) i = upd Q6 0 (nI (T - 1)) (3 + i); rw [pk_un (by omega), hc2 i hi]; unfold dpF; by_cases e : i < lw w11 6; (· rw [if_pos e, if_pos e]; exact R2 i (by omega)); rw [if_neg e, if_neg e]; exact R2 (i + 1) (by omega)
                        have hgd : ∀ i, i < T - 1 → gT (al6 i) := fun i hi => by rw [ha2 i hi]; by_cases e : i < lw w11 6; (· rw [if_pos e]; exact hg i (by omega)); rw [if_neg e]; exact hg (i + 1) (by omega)
                        have hnd : ∀ i j, i < T - 1 → j < T - 1 → i ≠ j → ¬ al6 i = al6 j := fun i j hi hj hij => by rw [ha2 i hi, ha2 j hj]; by_cases e : i < lw w11 6 <;> by_cases e2 : j < lw w11 6; (· rw [if_pos e, if_pos e2]; exact hne i j (by omega) (by omega) hij); (· rw [if_pos e, if_neg e2]; exact hne i (j + 1) (by omega) (by omega) (by omega)); (· rw [if_neg e, if_pos e2]; exact hne (i + 1) j (by omega) (by omega) (by omega)); (· rw [if_neg e, if_neg e2]; exact hne (i + 1) (j + 1) (by omega) (by omega) (by omega))
                        have hI7 : lwI G M88 z qa aa (T - 1) mo od q _ _ := ⟨⟨_, _, _, _, _, _, _, hz, hR1, hR2, R3⟩, hQ, hA, pk_us, (by rw [pk_un (by omega)]; exact hk1), (by rw [pk_un (by omega)]; exact hk2), (by omega), hm, ho, hgd, hnd, hq⟩
                        refine s_goto C 907 dL_law_465 (by decide) ?_
                        refine V.drop 7 ?_
                        dsimp only [List.set]
                        refine V.drop 9 ?_
                        dsimp only [List.set]
                        refine V.drop 10 ?_
                        dsimp only [List.set]
                        refine V.drop 11 ?_
                        dsimp only [List.set]
                        refine V.drop 12 ?_
                        dsimp only [List.set]
                        refine V.drop 13 ?_
                        dsimp only [List.set]
                        refine V.widen (bc' := 40 * (26 - (n + 1))) (bs' := 852 * (26 - (n + 1))) (by omega) (by omega) ?_
                        exact j907 _ _ _ _ _ _ _ _ hI7
                      · skip
                        exact absurd rfl z460
                · skip
                  refine s_aload_n C 399 dL_law_398 rfl rfl ?_
                  refine s_iload C 401 dL_law_399 rfl rfl ?_
                  refine s_aload_n C 402 dL_law_401 rfl rfl ?_
                  refine s_iload C 404 dL_law_402 rfl rfl ?_
                  refine s_iconst C 405 (nI 1) dL_law_404 rfl (by decide) ?_
                  refine s_iaddN C 406 dL_law_405 rfl ?_
                  refine s_laldN C 407 dL_law_406 rfl hA (by omega) (by omega) ?_
                  refine s_lastU C 408 dL_law_407 rfl hA (by first | decide | omega) (by omega) (by omega) (fun M89 U90 => ?_)
                  have hz := zR_put hz U90 hA (by decide)
                  have hQ := U90.o hA hQ (by first | decide | omega)
                  have hA := U90.s
                  refine s_aload_n C 409 dL_law_408 rfl rfl ?_
                  refine s_iconst C 410 (nI 3) dL_law_409 rfl (by decide) ?_
                  refine s_iload C 412 dL_law_410 rfl rfl ?_
                  refine s_iaddN C 413 dL_law_412 rfl ?_
                  refine s_aload_n C 414 dL_law_413 rfl rfl ?_
                  refine s_iconst C 415 (nI 4) dL_law_414 rfl (by decide) ?_
                  refine s_iload C 417 dL_law_415 rfl rfl ?_
                  refine s_iaddN C 418 dL_law_417 rfl ?_
                  refine s_iald C 419 dL_law_418 rfl hQ (by omega) (by omega) ?_
                  refine s_iastU C 420 dL_law_419 rfl hQ (by first | decide | omega) (by omega) (by omega) (fun M91 U92 => ?_)
                  have hz := zR_put hz U92 hQ (by decide)
                  have hA := U92.o hQ hA (by first | decide | omega)
                  have hQ := U92.s
                  refine s_iinc C 423 (nI (u + 1)) dL_law_420 rfl rfl (by rw [← nI_add]; rfl) rfl ?_
                  dsimp only [List.set]
                  refine s_goto C 388 dL_law_423 (by decide) ?_
                  exact ih388 (u + 1) _ _ _ (by omega) (by omega) (fun w => by omega) (by omega) (fun i => by unfold va_up; by_cases e : i = u; (· rw [if_pos e, if_pos (by omega), ha (u + 1), if_neg (by omega), e]); rw [if_neg e, ha i]; by_cases e2 : lw w11 6 ≤ i ∧ i < u; (· rw [if_pos e2, if_pos (by omega)]); rw [if_neg e2, if_neg (by omega)]) (fun i => by unfold upd; by_cases e : i = 3 + u; (· rw [if_pos e, if_pos (by omega), hc (4 + u), if_neg (by omega), e, show 3 + u + 1 = 4 + u by omega]); rw [if_neg e, hc i]; by_cases e2 : lw w11 6 + 3 ≤ i ∧ i < u + 3; (· rw [if_pos e2, if_pos (by omega)]); rw [if_neg e2, if_neg (by omega)]) (by rw [pk_un (by omega)]; exact hk0) (by rw [pk_un (by omega)]; exact hk1) (by rw [pk_un (by omega)]; exact hk2) hz hQ hA
        · skip
          refine s_aload_n C 86 dL_law_85 rfl rfl ?_
          refine s_iconst C 87 (nI 0) dL_law_86 rfl (by decide) ?_
          refine s_iald C 88 dL_law_87 rfl hQ (by omega) (by omega) ?_
          rw [hQ0]
          refine s_bipush C 90 (nI 6) dL_law_88 rfl (by decide) ?_
          refine s_icmp_neN C 96 93 dL_law_90 (by decide) rfl (by omega) (by omega) (fun z90 => ?_) (fun z90 => ?_)
          · skip
            refine s_iload C 98 dL_law_96 rfl rfl ?_
            refine s_iconst C 99 (nI 3) dL_law_98 rfl (by decide) ?_
            refine s_ishr C 100 dL_law_99 rfl ?_
            refine s_iload C 102 dL_law_100 rfl rfl ?_
            refine s_invS C 105 (40 * (26 - n)) (852 * (26 - n)) [] dL_law_102 rfl m_L_115 (l_made (x := (w9 >>> ((nI 3) &&& 31))) (y := w11)) rfl rfl rfl ⟨by decide, by decide⟩ (Nat.le_of_ble_eq_true rfl) (by omega) (by omega) ?_
            rintro _ M93 ⟨nt, hnt, rfl, rfl⟩
            dsimp only [Option.toList, List.cons_append, List.nil_append]
            have hn12 := tS_le (t := nt)
            have hn60 := hnt.g.lt
            have hn9 := hnt.n
            refine s_lstore C 107 dL_law_105 rfl rfl rfl ?_
            dsimp only [List.set]
            refine s_iconst C 108 (nI 0) dL_law_107 rfl (by decide) ?_
            refine s_istore C 110 dL_law_108 rfl rfl rfl ?_
            dsimp only [List.set]
            refine s_iconst C 111 (nI 0) dL_law_110 rfl (by decide) ?_
            refine s_istore C 113 dL_law_111 rfl rfl rfl ?_
            dsimp only [List.set]
            suffices lp113 : ∀ (fu113 : Nat) (u : Nat) (b : Bool), T - u < fu113 → u ≤ T → b = thB al nt u → V X (40 * (26 - n)) (852 * (26 - n)) 113 [some (.ref (G.2.2.2.2.1 0)), some (.ref z), some (.ref qa), some (.ref aa), some (.long (lN q)), none, some (.int (nI n)), some (.int w9), some (.int w11), some (.int (nI kd)), some (.int (nI (tS q))), some (.long (lN nt)), none, some (.int (mB b)), some (.int (nI u)), none, none] [] M9 from lp113 (T + 1) 0 false (by omega) (by omega) (by unfold thB; simp)
            intro fu113
            induction fu113 with
            | zero => intro u b hu0 hu hb; omega
            | succ fu113 ih113 =>
              intro u b hu0 hu hb
              have hau : u < T → al u < 2 ^ 60 := fun w => (hg u w).g.lt
              refine s_iload C 115 dL_law_113 rfl rfl ?_
              refine s_aload_n C 116 dL_law_115 rfl rfl ?_
              refine s_iconst C 117 (nI 0) dL_law_116 rfl (by decide) ?_
              refine s_iald C 118 dL_law_117 rfl hQ (by omega) (by omega) ?_
              rw [hQ0]
              refine s_icmp_geN C 149 121 dL_law_118 (by decide) rfl (by omega) (by omega) (fun z118 => ?_) (fun z118 => ?_)
              · skip
                have hbT : b = thB al nt T := by rw [hb, show u = T by omega]
                refine s_iconst C 150 (nI 0) dL_law_149 rfl (by decide) ?_
                refine s_istore C 152 dL_law_150 rfl rfl rfl ?_
                dsimp only [List.set]
                suffices lp152 : ∀ (fu152 : Nat) (k : Nat) (tg : Nat → Int32) (M8 : mM), 13 - k < fu152 → k ≤ tS nt → zR G M8 z (T, mo, od, tS q, q9, ln, fl, us) c hs k tg → (∀ j, j < k → tg j = tF nt j) → M8 qa = some (300, .inr (0, 9, .inl Q)) → M8 aa = some (301, .inr (5, 7, .inr (lA al))) → V X (40 * (26 - n)) (852 * (26 - n)) 152 [some (.ref (G.2.2.2.2.1 0)), some (.ref z), some (.ref qa), some (.ref aa), some (.long (lN q)), none, some (.int (nI n)), some (.int w9), some (.int w11), some (.int (nI kd)), some (.int (nI (tS q))), some (.long (lN nt)), none, some (.int (mB b)), some (.int (nI k)), none, none] [] M8 from lp152 14 0 _ _ (by omega) (by omega) hz (fun j hj => by omega) hQ hA
                intro fu152
                induction fu152 with
                | zero => intro k tg M8 hk0 hk hz htg hQ hA; omega
                | succ fu152 ih152 =>
                  intro k tg M8 hk0 hk hz htg hQ hA
                  have hA1 := tA_lt (t := nt) (k := k)
                  have hC1 := tC_lt hA1
                  refine s_iload C 154 dL_law_152 rfl rfl ?_
                  refine s_lload C 156 dL_law_154 rfl rfl ?_
                  refine s_invS C 159 (40 * (26 - n)) (852 * (26 - n)) [.int (nI k)] dL_law_156 rfl m_L_18 (l_size (t := nt) (by first | exact hq.1.lt | exact hnt.g.lt)) rfl rfl rfl ⟨by decide, by decide⟩ (Nat.le_of_ble_eq_true rfl) (by omega) (by omega) ?_
                  rintro _ M94 ⟨rfl, rfl⟩
                  dsimp only [Option.toList, List.cons_append, List.nil_append]
                  refine s_icmp_geN C 191 162 dL_law_159 (by decide) rfl (by omega) (by omega) (fun z159 => ?_) (fun z159 => ?_)
                  · skip
                    have hkn : k = tS nt := by omega
                    rw [hkn] at hz htg
                    have hgx : agF (tS nt) (fun j => tg (0 + j)) (tF nt) := fun j hj => by show tg (0 + j) = _; rw [Nat.zero_add]; exact htg j hj
                    have hit : itB tg (tS nt) = true := it_go (TV_c (fun j hj => htg j hj) hnt.V)
                    refine s_iconst C 192 (nI 0) dL_law_191 rfl (by decide) ?_
                    refine s_istore C 194 dL_law_192 rfl rfl rfl ?_
                    dsimp only [List.set]
                    refine s_aload_n C 195 dL_law_194 rfl rfl ?_
                    refine s_aload_n C 196 dL_law_195 rfl rfl ?_
                    refine s_iconst C 197 (nI 0) dL_law_196 rfl (by decide) ?_
                    refine s_iald C 198 dL_law_197 rfl hQ (by omega) (by omega) ?_
                    rw [hQ0]
                    refine s_lload C 200 dL_law_198 rfl rfl ?_
                    refine s_lastU C 201 dL_law_200 rfl hA (by first | decide | omega) (by omega) (by omega) (fun M95 U96 => ?_)
                    have hz := zR_put hz U96 hA (by decide)
                    have hQ := U96.o hA hQ (by first | decide | omega)
                    have hA := U96.s
                    refine s_aload_n C 202 dL_law_201 rfl rfl ?_
                    refine s_iconst C 203 (nI 3) dL_law_202 rfl (by decide) ?_
                    refine s_aload_n C 204 dL_law_203 rfl rfl ?_
                    refine s_iconst C 205 (nI 0) dL_law_204 rfl (by decide) ?_
                    refine s_iald C 206 dL_law_205 rfl hQ (by omega) (by omega) ?_
                    rw [hQ0]
                    refine s_iaddN C 207 dL_law_206 rfl ?_
                    refine s_iconst C 208 (nI 0) dL_law_207 rfl (by decide) ?_
                    refine s_iastU C 209 dL_law_208 rfl hQ (by first | decide | omega) (by omega) (by omega) (fun M97 U98 => ?_)
                    have hz := zR_put hz U98 hQ (by decide)
                    have hA := U98.o hQ hA (by first | decide | omega)
                    have hQ := U98.s
                    refine s_iconst C 210 (nI 0) dL_law_209 rfl (by decide) ?_
                    refine s_istore C 212 dL_law_210 rfl rfl rfl ?_
                    dsimp only [List.set]
                    have hc : ∀ i, 3 ≤ i → upd Q (3 + T) (nI 0) i = upd Q (3 + T) (nI 0) i := fun _ _ => rfl
                    have hk0 : upd Q (3 + T) (nI 0) 0 = nI T := by rw [pk_un (by omega)]; exact hQ0
                    have hk1 : upd Q (3 + T) (nI 0) 1 = nI mo := by rw [pk_un (by omega)]; exact hQ1
                    have hk2 : upd Q (3 + T) (nI 0) 2 = nI od := by rw [pk_un (by omega)]; exact hQ2
                    have hgT : ∀ i, i < T + 1 → gT (va_up al T nt i) := fun i hi => by by_cases e : i = T; (· rw [e, va_up_self]; exact hnt); rw [va_up_ne al nt e]; exact hg i (by omega)
                    suffices lp212 : ∀ (fu212 : Nat) (u : Nat) (Q6 : Nat → Int32) (M6 : mM), T - u < fu212 → u ≤ T → (∀ i, 3 ≤ i → Q6 i = upd Q (3 + T) (nI 0) i) → Q6 0 = nI T → Q6 1 = nI mo → Q6 2 = nI od → zR G M6 z (T, mo, od, tS q, q9, ln, fl, us) c hs (tS nt) tg → M6 qa = some (300, .inr (0, 9, .inl Q6)) → M6 aa = some (301, .inr (5, 7, .inr (lA (va_up al T nt)))) → V X (40 * (26 - n)) (852 * (26 - n)) 212 [some (.ref (G.2.2.2.2.1 0)), some (.ref z), some (.ref qa), some (.ref aa), some (.long (lN q)), none, some (.int (nI n)), some (.int w9), some (.int w11), some (.int (nI kd)), some (.int (nI (tS q))), some (.long (lN nt)), none, some (.int (mB b)), some (.int (nI (chL T mo al nt u))), some (.int (nI u)), none] [] M6 from lp212 (T + 1) 0 _ _ (by omega) (by omega) hc hk0 hk1 hk2 hz hQ hA
                    intro fu212
                    induction fu212 with
                    | zero => intro u Q6 M6 hu0 hu hc hk0 hk1 hk2 hz hQ hA; omega
                    | succ fu212 ih212 =>
                      intro u Q6 M6 hu0 hu hc hk0 hk1 hk2 hz hQ hA
                      have hch : chL T mo al nt u ≤ u := chN_le u
                      refine s_iload C 214 dL_law_212 rfl rfl ?_
                      refine s_aload_n C 215 dL_law_214 rfl rfl ?_
                      refine s_iconst C 216 (nI 0) dL_law_215 rfl (by decide) ?_
                      refine s_iald C 217 dL_law_216 rfl hQ (by omega) (by omega) ?_
                      rw [hk0]
                      refine s_icmp_geN C 273 220 dL_law_217 (by decide) rfl (by omega) (by omega) (fun z217 => ?_) (fun z217 => ?_)
                      · skip
                        have huT : u = T := by omega
                        have hchT : chL T mo al nt T ≤ T := chN_le T
                        rw [huT]
                        have hnz := hz
                        cases hb9 : b with
                        | true =>
                          have hth : thB al nt T = true := by rw [← hbT, hb9]
                          have hrf := rf_y R1 hg hnt (by omega) hgx hth
                          refine s_aload_n C 274 dL_law_273 rfl rfl ?_
                          refine s_invV C 277 (40 * (26 - n) - 20) (852 * (26 - n) - 426) [] (zR_rv hz) dL_law_274 rfl m_L_122 (z_ifAdded hz) rfl rfl rfl ⟨by decide, by decide⟩ (Nat.le_of_ble_eq_true rfl) (by omega) (by omega) ?_
                          rintro _ M99 ⟨rfl, hz, hF1⟩
                          dsimp only [Option.toList, List.cons_append, List.nil_append]
                          have hQ := hF1.at hQ TZ_q
                          have hA := hF1.at hA TZ_a
                          rw [ia_y R1 hg hnt (by omega) hgx hit hth]
                          refine s_iload C 279 dL_law_277 rfl rfl ?_
                          refine s_if_eqB C 287 282 dL_law_279 (by decide) rfl (fun z279 => ?_) (fun z279 => ?_)
                          · skip
                            exact absurd z279 (by decide)
                          · skip
                            refine s_bipush C 284 (-3) dL_law_282 rfl (by decide) ?_
                            refine s_goto C 289 dL_law_284 (by decide) ?_
                            refine s_icmp_ne C 333 292 dL_law_289 (by decide) rfl (fun z289 => ?_) (fun z289 => ?_)
                            · skip
                              exact absurd rfl z289
                            · skip
                              refine s_aload_n C 293 dL_law_292 rfl rfl ?_
                              refine s_invV C 296 (40 * (26 - n) - 40) (852 * (26 - n) - 852) [] (zR_rv hz) dL_law_293 rfl m_L_125 (z_add hz) rfl rfl rfl ⟨by decide, by decide⟩ (Nat.le_of_ble_eq_true rfl) (by omega) (by omega) ?_
                              rintro _ M100 ⟨rfl, hz, hF1⟩
                              dsimp only [Option.toList, List.cons_append, List.nil_append]
                              have hQ := hF1.at hQ TZ_q
                              have hA := hF1.at hA TZ_a
                              rw [if_pos hit, hrf, if_pos (show (-3 : Int32) < 0 by decide)]
                              simp only [if_neg (show ¬ (itB tg (tS nt) = true ∧ ¬ refV T ln fl (fun j => tg (0 + j)) (tS nt) < 0) from fun w => w.2 (by rw [hrf]; decide))] at hz
                              refine s_iload C 298 dL_law_296 rfl rfl ?_
                              refine s_if_eqB C 306 301 dL_law_298 (by decide) rfl (fun z298 => ?_) (fun z298 => ?_)
                              · skip
                                exact absurd z298 (by decide)
                              · skip
                                refine s_bipush C 303 (-3) dL_law_301 rfl (by decide) ?_
                                refine s_goto C 309 dL_law_303 (by decide) ?_
                                refine s_icmp_ne C 333 312 dL_law_309 (by decide) rfl (fun z309 => ?_) (fun z309 => ?_)
                                · skip
                                  exact absurd rfl z309
                                · skip
                                  refine s_aload_n C 313 dL_law_312 rfl rfl ?_
                                  refine s_invV C 316 (40 * (26 - n) - 40) (852 * (26 - n) - 852) [] (zR_rv hz) dL_law_313 rfl m_L_128 (z_clearText hz) rfl rfl rfl ⟨by decide, by decide⟩ (Nat.le_of_ble_eq_true rfl) (by omega) (by omega) ?_
                                  rintro _ M101 ⟨rfl, hz, hF1⟩
                                  dsimp only [Option.toList, List.cons_append, List.nil_append]
                                  have hQ := hF1.at hQ TZ_q
                                  have hA := hF1.at hA TZ_a
                                  refine s_iload C 318 dL_law_316 rfl rfl ?_
                                  refine s_if_eqB C 329 321 dL_law_318 (by decide) rfl (fun z318 => ?_) (fun z318 => ?_)
                                  · skip
                                    exact absurd z318 (by decide)
                                  · skip
                                    refine s_lload C 323 dL_law_321 rfl rfl ?_
                                    refine s_invS C 326 (40 * (26 - n) - 40) (852 * (26 - n) - 852) [.int (nI (tS nt))] dL_law_323 rfl m_L_18 (l_size (t := nt) (by first | exact hq.1.lt | exact hnt.g.lt)) rfl rfl rfl ⟨by decide, by decide⟩ (Nat.le_of_ble_eq_true rfl) (by omega) (by omega) ?_
                                    rintro _ M102 ⟨rfl, rfl⟩
                                    dsimp only [Option.toList, List.cons_append, List.nil_append]
                                    refine s_goto C 330 dL_law_326 (by decide) ?_
                                    refine s_icmp_eqN C 335 333 dL_law_330 (by decide) rfl (by omega) (by omega) (fun z330 => ?_) (fun z330 => ?_)
                                    · skip
                                      refine s_aload_n C 336 dL_law_335 rfl rfl ?_
                                      refine s_iconst C 337 (nI 0) dL_law_336 rfl (by decide) ?_
                                      refine s_dup2 C 338 dL_law_337 rfl rfl rfl ?_
                                      refine s_iald C 339 dL_law_338 rfl hQ (by omega) (by omega) ?_
                                      rw [hk0]
                                      refine s_iload C 341 dL_law_339 rfl rfl ?_
                                      refine s_if_eqB C 348 344 dL_law_341 (by decide) rfl (fun z341 => ?_) (fun z341 => ?_)
                                      · skip
                                        exact absurd z341 (by decide)
                                      · skip
                                        refine s_iconst C 345 (nI 0) dL_law_344 rfl (by decide) ?_
                                        refine s_goto C 349 dL_law_345 (by decide) ?_
                                        refine s_iaddN C 350 dL_law_349 rfl ?_
                                        refine s_iastU C 351 dL_law_350 rfl hQ (by first | decide | omega) (by omega) (by omega) (fun M103 U104 => ?_)
                                        have hz := zR_put hz U104 hQ (by decide)
                                        have hA := U104.o hQ hA (by first | decide | omega)
                                        have hQ := U104.s
                                        have hqc : ∀ i, 3 ≤ i → i ≠ 3 + T → Q6 i = Q i := fun i h1 h2 => by rw [hc i h1, pk_un h2]
                                        have hI7 : lwI G M103 z qa aa T mo od q _ _ := ⟨⟨_, _, _, _, _, _, _, hz, (fun t ht => ⟨(R1 t ht).1.trans (by show _ = tS (va_up al T nt t); rw [va_up_ne al nt (by omega)]), fun k hk => ((R1 t ht).2 k hk).trans (by show _ = tF (va_up al T nt t) k; rw [va_up_ne al nt (by omega)])⟩), (fun t ht => (R2 t ht).trans (by show Q (3 + t) = upd Q6 0 (nI (T + 0)) (3 + t); rw [pk_un (by omega), hqc _ (by omega) (by omega)])), R3⟩, hQ, hA, pk_us, (by rw [pk_un (by omega)]; exact hk1), (by rw [pk_un (by omega)]; exact hk2), hT6, hm, ho, (fun i hi => hgT i (by omega)), (fun i j hi hj hij => by rw [va_up_ne al nt (by omega), va_up_ne al nt (by omega)]; exact hne i j hi hj hij), hq⟩
                                        refine s_goto C 907 dL_law_351 (by decide) ?_
                                        refine V.drop 7 ?_
                                        dsimp only [List.set]
                                        refine V.drop 9 ?_
                                        dsimp only [List.set]
                                        refine V.drop 10 ?_
                                        dsimp only [List.set]
                                        refine V.drop 11 ?_
                                        dsimp only [List.set]
                                        refine V.drop 13 ?_
                                        dsimp only [List.set]
                                        refine V.drop 14 ?_
                                        dsimp only [List.set]
                                        refine V.drop 15 ?_
                                        dsimp only [List.set]
                                        refine V.widen (bc' := 40 * (26 - (n + 1))) (bs' := 852 * (26 - (n + 1))) (by omega) (by omega) ?_
                                        exact j907 _ _ _ _ _ _ _ _ hI7
                                    · skip
                                      exact absurd rfl z330
                        | false =>
                          have hth : thB al nt T = false := by rw [← hbT, hb9]
                          have hrf := rf_n R1 hg hnt (by omega) hgx hth
                          refine s_aload_n C 274 dL_law_273 rfl rfl ?_
                          refine s_invV C 277 (40 * (26 - n) - 20) (852 * (26 - n) - 426) [] (zR_rv hz) dL_law_274 rfl m_L_122 (z_ifAdded hz) rfl rfl rfl ⟨by decide, by decide⟩ (Nat.le_of_ble_eq_true rfl) (by omega) (by omega) ?_
                          rintro _ M105 ⟨rfl, hz, hF1⟩
                          dsimp only [Option.toList, List.cons_append, List.nil_append]
                          have hQ := hF1.at hQ TZ_q
                          have hA := hF1.at hA TZ_a
                          rw [ia_n R1 hg hnt (by omega) hgx hit hth]
                          refine s_iload C 279 dL_law_277 rfl rfl ?_
                          refine s_if_eqB C 287 282 dL_law_279 (by decide) rfl (fun z279 => ?_) (fun z279 => ?_)
                          · skip
                            refine s_iload C 289 dL_law_287 rfl rfl ?_
                            refine s_icmp_neN C 333 292 dL_law_289 (by decide) rfl (by omega) (by omega) (fun z289 => ?_) (fun z289 => ?_)
                            · skip
                              exact absurd rfl z289
                            · skip
                              refine s_aload_n C 293 dL_law_292 rfl rfl ?_
                              refine s_invV C 296 (40 * (26 - n) - 40) (852 * (26 - n) - 852) [] (zR_rv hz) dL_law_293 rfl m_L_125 (z_add hz) rfl rfl rfl ⟨by decide, by decide⟩ (Nat.le_of_ble_eq_true rfl) (by omega) (by omega) ?_
                              rintro _ M106 ⟨rfl, hz, hF1⟩
                              dsimp only [Option.toList, List.cons_append, List.nil_append]
                              have hQ := hF1.at hQ TZ_q
                              have hA := hF1.at hA TZ_a
                              rw [if_pos hit, hrf, if_neg (show ¬ (nI 0) < 0 by decide)]
                              simp only [if_pos (show (itB tg (tS nt) = true ∧ ¬ refV T ln fl (fun j => tg (0 + j)) (tS nt) < 0) from ⟨hit, by rw [hrf]; decide⟩)] at hz
                              refine s_iload C 298 dL_law_296 rfl rfl ?_
                              refine s_if_eqB C 306 301 dL_law_298 (by decide) rfl (fun z298 => ?_) (fun z298 => ?_)
                              · skip
                                refine s_aload_n C 307 dL_law_306 rfl rfl ?_
                                refine s_iconst C 308 (nI 0) dL_law_307 rfl (by decide) ?_
                                refine s_iald C 309 dL_law_308 rfl hQ (by omega) (by omega) ?_
                                rw [hk0]
                                refine s_icmp_neN C 333 312 dL_law_309 (by decide) rfl (by omega) (by omega) (fun z309 => ?_) (fun z309 => ?_)
                                · skip
                                  exact absurd rfl z309
                                · skip
                                  refine s_aload_n C 313 dL_law_312 rfl rfl ?_
                                  refine s_invV C 316 (40 * (26 - n) - 40) (852 * (26 - n) - 852) [] (zR_rv hz) dL_law_313 rfl m_L_128 (z_clearText hz) rfl rfl rfl ⟨by decide, by decide⟩ (Nat.le_of_ble_eq_true rfl) (by omega) (by omega) ?_
                                  rintro _ M107 ⟨rfl, hz, hF1⟩
                                  dsimp only [Option.toList, List.cons_append, List.nil_append]
                                  have hQ := hF1.at hQ TZ_q
                                  have hA := hF1.at hA TZ_a
                                  refine s_iload C 318 dL_law_316 rfl rfl ?_
                                  refine s_if_eqB C 329 321 dL_law_318 (by decide) rfl (fun z318 => ?_) (fun z318 => ?_)
                                  · skip
                                    refine s_iconst C 330 (nI 0) dL_law_329 rfl (by decide) ?_
                                    refine s_icmp_eqN C 335 333 dL_law_330 (by decide) rfl (by omega) (by omega) (fun z330 => ?_) (fun z330 => ?_)
                                    · skip
                                      refine s_aload_n C 336 dL_law_335 rfl rfl ?_
                                      refine s_iconst C 337 (nI 0) dL_law_336 rfl (by decide) ?_
                                      refine s_dup2 C 338 dL_law_337 rfl rfl rfl ?_
                                      refine s_iald C 339 dL_law_338 rfl hQ (by omega) (by omega) ?_
                                      rw [hk0]
                                      refine s_iload C 341 dL_law_339 rfl rfl ?_
                                      refine s_if_eqB C 348 344 dL_law_341 (by decide) rfl (fun z341 => ?_) (fun z341 => ?_)
                                      · skip
                                        refine s_iconst C 349 (nI 1) dL_law_348 rfl (by decide) ?_
                                        refine s_iaddN C 350 dL_law_349 rfl ?_
                                        refine s_iastU C 351 dL_law_350 rfl hQ (by first | decide | omega) (by omega) (by omega) (fun M108 U109 => ?_)
                                        have hz := zR_put hz U109 hQ (by decide)
                                        have hA := U109.o hQ hA (by first | decide | omega)
                                        have hQ := U109.s
                                        have hqc : ∀ i, 3 ≤ i → i ≠ 3 + T → Q6 i = Q i := fun i h1 h2 => by rw [hc i h1, pk_un h2]
                                        have hR1 : agT (T + 1) (adF ln T (tS nt)) (lLn (va_up al T nt)) (adF fl T (fun j => tg (0 + j))) (lFl (va_up al T nt)) := by rw [lLn_up, lFl_up]; exact agT_ad R1 hgx
                                        have hR2 : agU (T + 1) (adF us T (nI 0)) (lUs (upd Q6 0 (nI (T + 1)))) := fun t ht => by show adF us T (nI 0) t = upd Q6 0 (nI (T + 1)) (3 + t); rw [pk_un (by omega)]; by_cases e : t = T; (· rw [e, hc _ (by omega), pk_us]; exact if_pos rfl); rw [hqc _ (by omega) (by omega)]; exact (if_neg e).trans (R2 t (by omega))
                                        have hI7 : lwI G M108 z qa aa (T + 1) mo od q _ _ := ⟨⟨_, _, _, _, _, _, _, hz, hR1, hR2, R3⟩, hQ, hA, pk_us, (by rw [pk_un (by omega)]; exact hk1), (by rw [pk_un (by omega)]; exact hk2), (by omega), hm, ho, hgT, (fun i j hi hj hij => by by_cases e : i = T; (· have e2 : j ≠ T := (by omega); rw [e, va_up_self, va_up_ne al nt e2]; exact fun w => thB_no hth j (by omega) w.symm); by_cases e2 : j = T; (· rw [e2, va_up_self, va_up_ne al nt e]; exact thB_no hth i (by omega)); rw [va_up_ne al nt e, va_up_ne al nt e2]; exact hne i j (by omega) (by omega) hij), hq⟩
                                        refine s_goto C 907 dL_law_351 (by decide) ?_
                                        refine V.drop 7 ?_
                                        dsimp only [List.set]
                                        refine V.drop 9 ?_
                                        dsimp only [List.set]
                                        refine V.drop 10 ?_
                                        dsimp only [List.set]
                                        refine V.drop 11 ?_
                                        dsimp only [List.set]
                                        refine V.drop 13 ?_
                                        dsimp only [List.set]
                                        refine V.drop 14 ?_
                                        dsimp only [List.set]
                                        refine V.drop 15 ?_
                                        dsimp only [List.set]
                                        refine V.widen (bc' := 40 * (26 - (n + 1))) (bs' := 852 * (26 - (n + 1))) (by omega) (by omega) ?_
                                        exact j907 _ _ _ _ _ _ _ _ hI7
                                      · skip
                                        exact absurd z341 (by decide)
                                    · skip
                                      omega
                                  · skip
                                    exact absurd z318 (by decide)
                              · skip
                                exact absurd z298 (by decide)
                          · skip
                            exact absurd z279 (by decide)
                      · skip
                        refine s_iload C 222 dL_law_220 rfl rfl ?_
                        refine s_iconst C 223 (nI 1) dL_law_222 rfl (by decide) ?_
                        refine s_aload_n C 224 dL_law_223 rfl rfl ?_
                        refine s_aload_n C 225 dL_law_224 rfl rfl ?_
                        refine s_invS C 228 (40 * (26 - n)) (852 * (26 - n)) [] dL_law_225 rfl m_L_56 (l_bestK (T := T) hQ hA hk1 hk2 hm ho hk0 (by omega) (fun i hi => hgT i (by omega)) (t := u) (by omega)) rfl rfl rfl ⟨by decide, by decide⟩ (Nat.le_of_ble_eq_true rfl) (by omega) (by omega) ?_
                        rintro _ M110 ⟨rfl, rfl⟩
                        dsimp only [Option.toList, List.cons_append, List.nil_append]
                        rw [show bst (pKb T mo (lLn (va_up al T nt)) (lFl (va_up al T nt)) u) = kyN T mo (lLn (va_up al T nt)) (lFl (va_up al T nt)) u from rfl]
                        refine s_istore C 230 dL_law_228 rfl rfl rfl ?_
                        dsimp only [List.set]
                        refine s_aload_n C 231 dL_law_230 rfl rfl ?_
                        refine s_iconst C 232 (nI 0) dL_law_231 rfl (by decide) ?_
                        refine s_dup2 C 233 dL_law_232 rfl rfl rfl ?_
                        refine s_iald C 234 dL_law_233 rfl hQ (by omega) (by omega) ?_
                        rw [hk0]
                        refine s_iconst C 235 (nI 1) dL_law_234 rfl (by decide) ?_
                        refine s_iaddN C 236 dL_law_235 rfl ?_
                        refine s_iastU C 237 dL_law_236 rfl hQ (by first | decide | omega) (by omega) (by omega) (fun M111 U112 => ?_)
                        have hz := zR_put hz U112 hQ (by decide)
                        have hA := U112.o hQ hA (by first | decide | omega)
                        have hQ := U112.s
                        refine s_iload C 239 dL_law_237 rfl rfl ?_
                        refine s_iload C 241 dL_law_239 rfl rfl ?_
                        refine s_iconst C 242 (nI 1) dL_law_241 rfl (by decide) ?_
                        refine s_aload_n C 243 dL_law_242 rfl rfl ?_
                        refine s_aload_n C 244 dL_law_243 rfl rfl ?_
                        refine s_invS C 247 (40 * (26 - n)) (852 * (26 - n)) [.int (nI (chL T mo al nt u))] dL_law_244 rfl m_L_56 (l_bestK (T := T + 1) hQ hA (by rw [pk_un (by omega)]; exact hk1) (by rw [pk_un (by omega)]; exact hk2) hm ho pk_us (by omega) hgT (t := u) (by omega)) rfl rfl rfl ⟨by decide, by decide⟩ (Nat.le_of_ble_eq_true rfl) (by omega) (by omega) ?_
                        rintro _ M113 ⟨rfl, rfl⟩
                        dsimp only [Option.toList, List.cons_append, List.nil_append]
                        rw [show bst (pKb (T + 1) mo (lLn (va_up al T nt)) (lFl (va_up al T nt)) u) = kyN (T + 1) mo (lLn (va_up al T nt)) (lFl (va_up al T nt)) u from rfl]
                        refine s_iload C 249 dL_law_247 rfl rfl ?_
                        refine s_icmp_ne C 256 252 dL_law_249 (by decide) rfl (fun z249 => ?_) (fun z249 => ?_)
                        · skip
                          refine s_iconst C 257 (nI 1) dL_law_256 rfl (by decide) ?_
                          refine s_iaddN C 258 dL_law_257 rfl ?_
                          refine s_istore C 260 dL_law_258 rfl rfl rfl ?_
                          dsimp only [List.set]
                          refine s_aload_n C 261 dL_law_260 rfl rfl ?_
                          refine s_iconst C 262 (nI 0) dL_law_261 rfl (by decide) ?_
                          refine s_dup2 C 263 dL_law_262 rfl rfl rfl ?_
                          refine s_iald C 264 dL_law_263 rfl hQ (by omega) (by omega) ?_
                          rw [pk_us]
                          refine s_iconst C 265 (nI 1) dL_law_264 rfl (by decide) ?_
                          refine s_isubN C 266 dL_law_265 rfl (by omega) ?_
                          refine s_iastU C 267 dL_law_266 rfl hQ (by first | decide | omega) (by omega) (by omega) (fun M114 U115 => ?_)
                          have hz := zR_put hz U115 hQ (by decide)
                          have hA := U115.o hQ hA (by first | decide | omega)
                          have hQ := U115.s
                          refine s_iinc C 270 (nI (u + 1)) dL_law_267 rfl rfl (by rw [← nI_add]; rfl) rfl ?_
                          dsimp only [List.set]
                          refine s_goto C 212 dL_law_270 (by decide) ?_
                          refine V.drop 16 ?_
                          dsimp only [List.set]
                          have e9 : chL T mo al nt (u + 1) = chL T mo al nt u + 1 := chL_n (by omega) z249
                          have i9 := ih212 (u + 1) _ _ (by omega) (by omega) (fun i hi => by rw [pk_un (by omega), pk_un (by omega)]; exact hc i hi) (by rw [pk_us, show T + 1 - 1 = T by omega]) (by rw [pk_un (by omega), pk_un (by omega)]; exact hk1) (by rw [pk_un (by omega), pk_un (by omega)]; exact hk2) hz hQ hA
                          rw [e9] at i9
                          exact i9
                        · skip
                          refine s_iconst C 253 (nI 0) dL_law_252 rfl (by decide) ?_
                          refine s_goto C 257 dL_law_253 (by decide) ?_
                          refine s_iaddN C 258 dL_law_257 rfl ?_
                          refine s_istore C 260 dL_law_258 rfl rfl rfl ?_
                          dsimp only [List.set]
                          refine s_aload_n C 261 dL_law_260 rfl rfl ?_
                          refine s_iconst C 262 (nI 0) dL_law_261 rfl (by decide) ?_
                          refine s_dup2 C 263 dL_law_262 rfl rfl rfl ?_
                          refine s_iald C 264 dL_law_263 rfl hQ (by omega) (by omega) ?_
                          rw [pk_us]
                          refine s_iconst C 265 (nI 1) dL_law_264 rfl (by decide) ?_
                          refine s_isubN C 266 dL_law_265 rfl (by omega) ?_
                          refine s_iastU C 267 dL_law_266 rfl hQ (by first | decide | omega) (by omega) (by omega) (fun M116 U117 => ?_)
                          have hz := zR_put hz U117 hQ (by decide)
                          have hA := U117.o hQ hA (by first | decide | omega)
                          have hQ := U117.s
                          refine s_iinc C 270 (nI (u + 1)) dL_law_267 rfl rfl (by rw [← nI_add]; rfl) rfl ?_
                          dsimp only [List.set]
                          refine s_goto C 212 dL_law_270 (by decide) ?_
                          refine V.drop 16 ?_
                          dsimp only [List.set]
                          have e9 : chL T mo al nt (u + 1) = chL T mo al nt u + 0 := chL_y (by omega) z249
                          have i9 := ih212 (u + 1) _ _ (by omega) (by omega) (fun i hi => by rw [pk_un (by omega), pk_un (by omega)]; exact hc i hi) (by rw [pk_us, show T + 1 - 1 = T by omega]) (by rw [pk_un (by omega), pk_un (by omega)]; exact hk1) (by rw [pk_un (by omega), pk_un (by omega)]; exact hk2) hz hQ hA
                          rw [e9] at i9
                          exact i9
                  · skip
                    refine s_aload_n C 163 dL_law_162 rfl rfl ?_
                    refine s_lload C 165 dL_law_163 rfl rfl ?_
                    refine s_iload C 167 dL_law_165 rfl rfl ?_
                    refine s_invS C 170 (40 * (26 - n)) (852 * (26 - n)) [.ref z] dL_law_167 rfl m_L_12 (l_at (t := nt) (k := k) (by first | exact hq.1.lt | exact hnt.g.lt) (by omega)) rfl rfl rfl ⟨by decide, by decide⟩ (Nat.le_of_ble_eq_true rfl) (by omega) (by omega) ?_
                    rintro _ M118 ⟨rfl, rfl⟩
                    dsimp only [Option.toList, List.cons_append, List.nil_append]
                    refine s_invS C 173 (40 * (26 - n)) (852 * (26 - n)) [.ref z] dL_law_170 rfl m_L_30 (l_code (c := tA nt k) (by omega)) rfl rfl rfl ⟨by decide, by decide⟩ (Nat.le_of_ble_eq_true rfl) (by omega) (by omega) ?_
                    rintro _ M119 ⟨rfl, rfl⟩
                    dsimp only [Option.toList, List.cons_append, List.nil_append]
                    have hty := ty_c (tA nt k) (by have := hnt.c k (by omega); omega) (tS_at (by omega))
                    refine s_invV C 176 (40 * (26 - n)) (852 * (26 - n)) [] (zR_rv hz) dL_law_173 rfl m_L_119 (z_type hz) rfl rfl rfl ⟨by decide, by decide⟩ (Nat.le_of_ble_eq_true rfl) (by omega) (by omega) ?_
                    rintro _ M120 ⟨rfl, hz, hF1⟩
                    dsimp only [Option.toList, List.cons_append, List.nil_append]
                    have hQ := hF1.at hQ TZ_q
                    have hA := hF1.at hA TZ_a
                    rw [if_pos hty, if_pos (show k < 80 by omega)]
                    simp only [if_pos (show tyB (nI (tC (tA nt k))) = true ∧ k < 80 from ⟨hty, by omega⟩)] at hz
                    refine s_iload C 178 dL_law_176 rfl rfl ?_
                    refine s_iconst C 179 (nI 1) dL_law_178 rfl (by decide) ?_
                    refine s_iaddN C 180 dL_law_179 rfl ?_
                    refine s_icmp_eqN C 185 183 dL_law_180 (by decide) rfl (by omega) (by omega) (fun z180 => ?_) (fun z180 => ?_)
                    · skip
                      refine s_iinc C 188 (nI (k + 1)) dL_law_185 rfl rfl (by rw [← nI_add]; rfl) rfl ?_
                      dsimp only [List.set]
                      refine s_goto C 152 dL_law_188 (by decide) ?_
                      exact ih152 (k + 1) _ _ (by omega) (by omega) hz (fun j hj => by by_cases e : j = k; (· rw [e]; exact pk_us); rw [pk_un e]; exact htg j (by omega)) hQ hA
                    · skip
                      exact absurd rfl z180
              · skip
                have hau := hau (by omega)
                refine s_iload C 123 dL_law_121 rfl rfl ?_
                refine s_if_neB C 136 126 dL_law_123 (by decide) rfl (fun z123 => ?_) (fun z123 => ?_)
                · skip
                  have hy : thB al nt u = true ∨ al u = nt := Or.inl (by rw [← hb]; exact z123)
                  refine s_iconst C 137 (nI 1) dL_law_136 rfl (by decide) ?_
                  refine s_goto C 141 dL_law_137 (by decide) ?_
                  refine s_istore C 143 dL_law_141 rfl rfl rfl ?_
                  dsimp only [List.set]
                  refine s_iinc C 146 (nI (u + 1)) dL_law_143 rfl rfl (by rw [← nI_add]; rfl) rfl ?_
                  dsimp only [List.set]
                  refine s_goto C 113 dL_law_146 (by decide) ?_
                  exact ih113 (u + 1) true (by omega) (by omega) ((thB_y hy).symm)
                · skip
                  refine s_aload_n C 127 dL_law_126 rfl rfl ?_
                  refine s_iload C 129 dL_law_127 rfl rfl ?_
                  refine s_laldN C 130 dL_law_129 rfl hA (by omega) (by omega) ?_
                  refine s_lload C 132 dL_law_130 rfl rfl ?_
                  refine s_lcmp C 133 dL_law_132 rfl ?_
                  refine s_if_ne C 140 136 dL_law_133 (by decide) rfl (fun z133 => ?_) (fun z133 => ?_)
                  · skip
                    have z133 := fun w => z133 ((lcmpN (by omega) (by omega)).mpr w)
                    refine s_iconst C 141 (nI 0) dL_law_140 rfl (by decide) ?_
                    refine s_istore C 143 dL_law_141 rfl rfl rfl ?_
                    dsimp only [List.set]
                    refine s_iinc C 146 (nI (u + 1)) dL_law_143 rfl rfl (by rw [← nI_add]; rfl) rfl ?_
                    dsimp only [List.set]
                    refine s_goto C 113 dL_law_146 (by decide) ?_
                    exact ih113 (u + 1) false (by omega) (by omega) ((thB_n (by rw [← hb]; exact z123) z133).symm)
                  · skip
                    have z133 := (lcmpN (by omega) (by omega)).mp z133
                    have hy : thB al nt u = true ∨ al u = nt := Or.inr z133
                    refine s_iconst C 137 (nI 1) dL_law_136 rfl (by decide) ?_
                    refine s_goto C 141 dL_law_137 (by decide) ?_
                    refine s_istore C 143 dL_law_141 rfl rfl rfl ?_
                    dsimp only [List.set]
                    refine s_iinc C 146 (nI (u + 1)) dL_law_143 rfl rfl (by rw [← nI_add]; rfl) rfl ?_
                    dsimp only [List.set]
                    refine s_goto C 113 dL_law_146 (by decide) ?_
                    exact ih113 (u + 1) true (by omega) (by omega) ((thB_y hy).symm)
          · skip
            refine s_goto C 924 dL_law_93 (by decide) ?_
            refine V.drop 7 ?_
            dsimp only [List.set]
            refine V.drop 8 ?_
            dsimp only [List.set]
            refine V.drop 9 ?_
            dsimp only [List.set]
            refine V.drop 10 ?_
            dsimp only [List.set]
            refine V.widen (bc' := 40 * (26 - (n + 1))) (bs' := 852 * (26 - (n + 1))) (by omega) (by omega) ?_
            refine s_iinc C 927 (nI (n + 1)) dL_law_924 rfl rfl (by rw [← nI_add]; rfl) rfl ?_
            dsimp only [List.set]
            refine s_goto C 24 dL_law_927 (by decide) ?_
            exact ih24 (n + 1) T mo od q Q al _ (by omega) (by omega) hI9
      refine s_iload C 55 dL_law_53 rfl rfl ?_
      refine s_iconst C 56 (nI 4) dL_law_55 rfl (by decide) ?_
      refine s_icmp_geN C 63 59 dL_law_56 (by decide) rfl (by omega) (by omega) (fun z56 => ?_) (fun z56 => ?_)
      · skip
        refine s_iload C 65 dL_law_63 rfl rfl ?_
        refine s_bipush C 67 (nI 12) dL_law_65 rfl (by decide) ?_
        refine s_invS C 70 (40 * (26 - n)) (852 * (26 - n)) [] dL_law_67 rfl m_L_70 (l_low (v := w9) (m := 12) (by decide) (by decide)) rfl rfl rfl ⟨by decide, by decide⟩ (Nat.le_of_ble_eq_true rfl) (by omega) (by omega) ?_
        rintro _ M121 ⟨rfl, rfl⟩
        dsimp only [Option.toList, List.cons_append, List.nil_append]
        have hlw_122 := lw_lt (v := w9) (m := 12) (by decide)
        refine s_istore C 72 dL_law_70 rfl rfl rfl ?_
        dsimp only [List.set]
        exact j72 _ (by omega)
      · skip
        refine s_iconst C 60 (nI 0) dL_law_59 rfl (by decide) ?_
        refine s_goto C 70 dL_law_60 (by decide) ?_
        refine s_istore C 72 dL_law_70 rfl rfl rfl ?_
        dsimp only [List.set]
        exact j72 _ (by omega)
