set_option maxRecDepth 100000 in
set_option maxHeartbeats 40000000 in
theorem l_same {G : mG} {M : mM} {qa aa T mo od : Nat} {Q : Nat → Int32} {al : Nat → Nat} (hQ : M qa = some (300, .inr (0, 9, .inl Q))) (hA : M aa = some (301, .inr (5, 7, .inr (lA al)))) (hQ1 : Q 1 = nI mo) (hQ2 : Q 2 = nI od) (hm : mo < 4) (ho : od < 3) (hQ0 : Q 0 = nI T) (hT6 : T ≤ 6) (hg : ∀ i, i < T → gT (al i)) {z c tn : Nat} {q9 : Nat → Int32} {ln : Nat → Nat} {fl : Nat → Nat → Int32} {us : Nat → Int32} {hs : Nat → mSt} {tg : Nat → Int32} {q : Nat} {x : Int32} (hz : zR G M z (T, mo, od, tS q, q9, ln, fl, us) c hs tn tg) (R1 : agT T ln (lLn al) fl (lFl al)) (R2 : agU T us (lUs Q)) (R3 : agF (tS q) q9 (tF q)) (hne : ∀ i j, i < T → j < T → i ≠ j → ¬ al i = al j) (hok : okX T mo od 0 (fun _ => 0) (lLn al) (lFl al)) (hq : gQ q) : CC G iL_same 0 0 [.ref z, .int x, .long (lN q), .ref qa, .ref aa] M (fun r M1 => r = some (.int (nI 1)) ∧ zR G M1 z (T, mo, od, tS q, q9, ln, fl, us) c hs tn tg ∧ mZ [30, 31, 32, 40, 42] M M1) := by
  refine CC.of rfl (Nat.le_of_ble_eq_true rfl) rfl (fun X C Tr => ?_)
  show V X 0 0 0 [some (.ref z), some (.int x), some (.long (lN q)), none, some (.ref qa), some (.ref aa), none, none, none, none, none, none, none, none, none, none] [] M
  have hF : mZ [30, 31, 32, 40, 42] M M := mZ.rf
  have hT16 : T ≤ 16 := by omega
  have hck := tCut_ok hq
  have hc60 := hck.1.lt
  have hcp := hck.2.1
  have hq12 := tS_le (t := q)
  refine s_iconst C 1 (nI 0) dL_same_0 rfl (by decide) ?_
  refine s_istore C 3 dL_same_1 rfl rfl rfl ?_
  dsimp only [List.set]
  refine s_bipush C 5 (-6) dL_same_3 rfl (by decide) ?_
  refine s_istore C 7 dL_same_5 rfl rfl rfl ?_
  dsimp only [List.set]
  refine s_iconst C 8 (nI 0) dL_same_7 rfl (by decide) ?_
  refine s_istore C 10 dL_same_8 rfl rfl rfl ?_
  dsimp only [List.set]
  refine s_iconst C 11 (nI 0) dL_same_10 rfl (by decide) ?_
  refine s_istore C 13 dL_same_11 rfl rfl rfl ?_
  dsimp only [List.set]
  suffices lp13 : ∀ (fu13 : Nat) (t : Nat) (M9 : mM), T - t < fu13 → t ≤ T → zR G M9 z (T, mo, od, tS q, q9, ln, fl, us) c hs tn tg → M9 qa = some (300, .inr (0, 9, .inl Q)) → M9 aa = some (301, .inr (5, 7, .inr (lA al))) → mZ [30, 31, 32, 40, 42] M M9 → V X 0 0 13 [some (.ref z), some (.int x), some (.long (lN q)), none, some (.ref qa), some (.ref aa), some (.int (nI (unN T mo (lLn al) (lFl al) t))), some (.int (oI (hdN T mo (lLn al) (lFl al) t).2)), some (.int (nI ((hdN T mo (lLn al) (lFl al) t).1))), some (.int (nI t)), none, none, none, none, none, none] [] M9 from lp13 (T + 1) 0 _ (by omega) (by omega) hz hQ hA hF
  intro fu13
  induction fu13 with
  | zero => intro t M9 ht0 ht hz hQ hA hF; omega
  | succ fu13 ih13 =>
    intro t M9 ht0 ht hz hQ hA hF
    have hun := unN_le (T := T) (mo := mo) (ln := (lLn al)) (fl := (lFl al)) t
    have hhd := hdN_25 (T := T) (mo := mo) (ln := (lLn al)) (fl := (lFl al)) t
    refine s_iload C 15 dL_same_13 rfl rfl ?_
    refine s_aload C 17 dL_same_15 rfl rfl ?_
    refine s_iconst C 18 (nI 0) dL_same_17 rfl (by decide) ?_
    refine s_iald C 19 dL_same_18 rfl hQ (by omega) (by omega) ?_
    rw [hQ0]
    refine s_icmp_geN C 446 22 dL_same_19 (by decide) rfl (by omega) (by omega) (fun z19 => ?_) (fun z19 => ?_)
    · skip
      have htT9 : T = t := by omega
      subst htT9
      refine s_iconst C 447 (nI 0) dL_same_446 rfl (by decide) ?_
      refine s_istore C 449 dL_same_447 rfl rfl rfl ?_
      dsimp only [List.set]
      refine s_iconst C 450 (nI 0) dL_same_449 rfl (by decide) ?_
      refine s_istore C 452 dL_same_450 rfl rfl rfl ?_
      dsimp only [List.set]
      suffices lp452 : ∀ (fu452 : Nat) (k : Nat), T - k < fu452 → k ≤ T → V X 0 0 452 [some (.ref z), some (.int x), some (.long (lN q)), none, some (.ref qa), some (.ref aa), some (.int (nI (unN T mo (lLn al) (lFl al) T))), some (.int (oI (hdN T mo (lLn al) (lFl al) T).2)), some (.int (nI ((hdN T mo (lLn al) (lFl al) T).1))), some (.int (nI (cntP (fun w => (pmO mo (tS q) (tF q) ((lLn al) w) ((lFl al) w)).isSome) k))), some (.int (nI k)), none, none, none, none, none] [] M9 from lp452 (T + 1) 0 (by omega) (by omega)
      intro fu452
      induction fu452 with
      | zero => intro k hk0 hk; omega
      | succ fu452 ih452 =>
        intro k hk0 hk
        have hcn := cntP_le (P := fun w => (pmO mo (tS q) (tF q) ((lLn al) w) ((lFl al) w)).isSome) k
        refine s_iload C 454 dL_same_452 rfl rfl ?_
        refine s_aload C 456 dL_same_454 rfl rfl ?_
        refine s_iconst C 457 (nI 0) dL_same_456 rfl (by decide) ?_
        refine s_iald C 458 dL_same_457 rfl hQ (by omega) (by omega) ?_
        rw [hQ0]
        refine s_icmp_geN C 496 461 dL_same_458 (by decide) rfl (by omega) (by omega) (fun z458 => ?_) (fun z458 => ?_)
        · skip
          have hkT : k = T := by omega
          rw [hkT, rk_num (T := T) (mo := mo) (od := od) (ql := tS q) (q := tF q) (ln := (lLn al)) (fl := (lFl al)) (us := (lUs Q))]
          have hrk := rkN_T (T := T) (mo := mo) (od := od) (ql := tS q) (q := tF q) (ln := (lLn al)) (fl := (lFl al)) (us := (lUs Q))
          refine s_iconst C 497 (nI 0) dL_same_496 rfl (by decide) ?_
          refine s_istore C 499 dL_same_497 rfl rfl rfl ?_
          dsimp only [List.set]
          suffices lp499 : ∀ (fu499 : Nat) (k : Nat) (M8 : mM), (rkN T mo od (tS q) (tF q) (lLn al) (lFl al) (lUs Q) T).1 - k < fu499 → k ≤ (rkN T mo od (tS q) (tF q) (lLn al) (lFl al) (lUs Q) T).1 → zR G M8 z (T, mo, od, tS q, q9, ln, fl, us) c hs tn tg → M8 qa = some (300, .inr (0, 9, .inl Q)) → M8 aa = some (301, .inr (5, 7, .inr (lA al))) → mZ [30, 31, 32, 40, 42] M M8 → V X 0 0 499 [some (.ref z), some (.int x), some (.long (lN q)), none, some (.ref qa), some (.ref aa), some (.int (nI (unN T mo (lLn al) (lFl al) T))), some (.int (oI (hdN T mo (lLn al) (lFl al) T).2)), some (.int (nI ((hdN T mo (lLn al) (lFl al) T).1))), some (.int (nI ((rkN T mo od (tS q) (tF q) (lLn al) (lFl al) (lUs Q) T).1))), some (.int (nI k)), none, none, none, none, none] [] M8 from lp499 ((rkN T mo od (tS q) (tF q) (lLn al) (lFl al) (lUs Q) T).1 + 1) 0 _ (by omega) (by omega) hz hQ hA hF
          intro fu499
          induction fu499 with
          | zero => intro k M8 hk0 hk hz hQ hA hF; omega
          | succ fu499 ih499 =>
            intro k M8 hk0 hk hz hQ hA hF
            refine s_iload C 501 dL_same_499 rfl rfl ?_
            refine s_iload C 503 dL_same_501 rfl rfl ?_
            refine s_icmp_geN C 562 506 dL_same_503 (by decide) rfl (by omega) (by omega) (fun z503 => ?_) (fun z503 => ?_)
            · skip
              refine s_iconst C 563 (nI 0) dL_same_562 rfl (by decide) ?_
              refine s_istore C 565 dL_same_563 rfl rfl rfl ?_
              dsimp only [List.set]
              suffices lp565 : ∀ (fu565 : Nat) (k : Nat), 13 - k < fu565 → k ≤ tS q → V X 0 0 565 [some (.ref z), some (.int x), some (.long (lN q)), none, some (.ref qa), some (.ref aa), some (.int (nI (unN T mo (lLn al) (lFl al) T))), some (.int (oI (hdN T mo (lLn al) (lFl al) T).2)), some (.int (nI ((hdN T mo (lLn al) (lFl al) T).1))), some (.int (nI ((rkN T mo od (tS q) (tF q) (lLn al) (lFl al) (lUs Q) T).1))), some (.int (nI k)), none, none, none, none, none] [] M8 from lp565 14 0 (by omega) (by omega)
              intro fu565
              induction fu565 with
              | zero => intro k hk0 hk; omega
              | succ fu565 ih565 =>
                intro k hk0 hk
                have hA1 := tA_lt (t := q) (k := k)
                have hC1 := tC_lt hA1
                refine s_iload C 567 dL_same_565 rfl rfl ?_
                refine s_lload_n C 568 dL_same_567 rfl rfl ?_
                refine s_invS C 571 0 0 [.int (nI k)] dL_same_568 rfl m_L_18 (l_size (t := q) (by first | exact hq.1.lt | exact (hg _ htT).g.lt)) rfl rfl rfl ⟨by decide, by decide⟩ (Nat.le_of_ble_eq_true rfl) (by omega) (by omega) ?_
                rintro _ M1 ⟨rfl, rfl⟩
                dsimp only [Option.toList, List.cons_append, List.nil_append]
                refine s_icmp_geN C 600 574 dL_same_571 (by decide) rfl (by omega) (by omega) (fun z571 => ?_) (fun z571 => ?_)
                · skip
                  refine s_aload_n C 601 dL_same_600 rfl rfl ?_
                  refine s_invV C 604 0 0 [] (zR_rv hz) dL_same_601 rfl m_L_88 (z_titles hz) rfl rfl rfl ⟨by decide, by decide⟩ (Nat.le_of_ble_eq_true rfl) (by omega) (by omega) ?_
                  rintro _ M2 ⟨rfl, rfl⟩
                  dsimp only [Option.toList, List.cons_append, List.nil_append]
                  refine s_aload C 606 dL_same_604 rfl rfl ?_
                  refine s_iconst C 607 (nI 0) dL_same_606 rfl (by decide) ?_
                  refine s_iald C 608 dL_same_607 rfl hQ (by omega) (by omega) ?_
                  rw [hQ0]
                  refine s_icmp_neN C 698 611 dL_same_608 (by decide) rfl (by omega) (by omega) (fun z608 => ?_) (fun z608 => ?_)
                  · skip
                    exact absurd rfl z608
                  · skip
                    refine s_aload_n C 612 dL_same_611 rfl rfl ?_
                    refine s_invV C 615 0 0 [] (zR_rv hz) dL_same_612 rfl m_L_92 (z_mode hz) rfl rfl rfl ⟨by decide, by decide⟩ (Nat.le_of_ble_eq_true rfl) (by omega) (by omega) ?_
                    rintro _ M3 ⟨rfl, rfl⟩
                    dsimp only [Option.toList, List.cons_append, List.nil_append]
                    refine s_aload C 617 dL_same_615 rfl rfl ?_
                    refine s_iconst C 618 (nI 1) dL_same_617 rfl (by decide) ?_
                    refine s_iald C 619 dL_same_618 rfl hQ (by omega) (by omega) ?_
                    rw [hQ1]
                    refine s_icmp_neN C 698 622 dL_same_619 (by decide) rfl (by omega) (by omega) (fun z619 => ?_) (fun z619 => ?_)
                    · skip
                      exact absurd rfl z619
                    · skip
                      refine s_aload_n C 623 dL_same_622 rfl rfl ?_
                      refine s_invV C 626 0 0 [] (zR_rv hz) dL_same_623 rfl m_L_95 (z_order hz) rfl rfl rfl ⟨by decide, by decide⟩ (Nat.le_of_ble_eq_true rfl) (by omega) (by omega) ?_
                      rintro _ M4 ⟨rfl, rfl⟩
                      dsimp only [Option.toList, List.cons_append, List.nil_append]
                      refine s_aload C 628 dL_same_626 rfl rfl ?_
                      refine s_iconst C 629 (nI 2) dL_same_628 rfl (by decide) ?_
                      refine s_iald C 630 dL_same_629 rfl hQ (by omega) (by omega) ?_
                      rw [hQ2]
                      refine s_icmp_neN C 698 633 dL_same_630 (by decide) rfl (by omega) (by omega) (fun z630 => ?_) (fun z630 => ?_)
                      · skip
                        exact absurd rfl z630
                      · skip
                        refine s_aload_n C 634 dL_same_633 rfl rfl ?_
                        refine s_invV C 637 0 0 [] (zR_rv hz) dL_same_634 rfl m_L_98 (z_unknown hz hT16) rfl rfl rfl ⟨by decide, by decide⟩ (Nat.le_of_ble_eq_true rfl) (by omega) (by omega) ?_
                        rintro _ M5 ⟨rfl, hz, hF1⟩
                        dsimp only [Option.toList, List.cons_append, List.nil_append]
                        have hQ := hF1.at hQ (by decide)
                        have hA := hF1.at hA (by decide)
                        have hF := hF.tr (hF1.mono (by decide))
                        rw [unN_c R1 T (Nat.le_refl _)]
                        refine s_iload C 639 dL_same_637 rfl rfl ?_
                        refine s_icmp_ne C 698 642 dL_same_639 (by decide) rfl (fun z639 => ?_) (fun z639 => ?_)
                        · skip
                          exact absurd rfl z639
                        · skip
                          refine s_aload_n C 643 dL_same_642 rfl rfl ?_
                          refine s_invV C 646 0 0 [] (zR_rv hz) dL_same_643 rfl m_L_101 (z_hardest hz hT16) rfl rfl rfl ⟨by decide, by decide⟩ (Nat.le_of_ble_eq_true rfl) (by omega) (by omega) ?_
                          rintro _ M6 ⟨rfl, hz, hF1⟩
                          dsimp only [Option.toList, List.cons_append, List.nil_append]
                          have hQ := hF1.at hQ (by decide)
                          have hA := hF1.at hA (by decide)
                          have hF := hF.tr (hF1.mono (by decide))
                          rw [hdN_c R1 T (Nat.le_refl _)]
                          refine s_iload C 648 dL_same_646 rfl rfl ?_
                          refine s_icmp_ne C 698 651 dL_same_648 (by decide) rfl (fun z648 => ?_) (fun z648 => ?_)
                          · skip
                            exact absurd rfl z648
                          · skip
                            refine s_aload_n C 652 dL_same_651 rfl rfl ?_
                            refine s_invV C 655 0 0 [] (zR_rv hz) dL_same_652 rfl m_L_104 (z_results hz) rfl rfl rfl ⟨by decide, by decide⟩ (Nat.le_of_ble_eq_true rfl) (by omega) (by omega) ?_
                            rintro _ M7 ⟨rfl, ⟨_, _, _, _, hzA⟩, hF1⟩
                            dsimp only [Option.toList, List.cons_append, List.nil_append]
                            have hQ := hF1.at hQ (by decide)
                            have hA := hF1.at hA (by decide)
                            have hF := hF.tr (hF1.mono (by decide))
                            have hz := hzA.R
                            rw [rkN_c R1 R2 R3]
                            refine s_iload C 657 dL_same_655 rfl rfl ?_
                            refine s_icmp_ne C 698 660 dL_same_657 (by decide) rfl (fun z657 => ?_) (fun z657 => ?_)
                            · skip
                              exact absurd rfl z657
                            · skip
                              refine s_aload_n C 661 dL_same_660 rfl rfl ?_
                              refine s_iload C 663 dL_same_661 rfl rfl ?_
                              refine s_invV C 666 0 0 [] (zR_rv hz) dL_same_663 rfl m_L_79 (z_result hz) rfl rfl rfl ⟨by decide, by decide⟩ (Nat.le_of_ble_eq_true rfl) (by omega) (by omega) ?_
                              rintro _ M8 ⟨rfl, ⟨_, _, _, _, hzA⟩, hF1⟩
                              dsimp only [Option.toList, List.cons_append, List.nil_append]
                              have hQ := hF1.at hQ (by decide)
                              have hA := hF1.at hA (by decide)
                              have hF := hF.tr (hF1.mono (by decide))
                              have hz := hzA.R
                              rw [rs_v R1 R2 R3 (show (rkN T mo od (tS q) (tF q) (lLn al) (lFl al) (lUs Q) T).1 < 1000 by omega) hT6, if_neg (Nat.lt_irrefl _)]
                              refine s_iconst C 667 (-1) dL_same_666 rfl (by decide) ?_
                              refine s_icmp_ne C 698 670 dL_same_667 (by decide) rfl (fun z667 => ?_) (fun z667 => ?_)
                              · skip
                                exact absurd rfl z667
                              · skip
                                refine s_aload_n C 671 dL_same_670 rfl rfl ?_
                                refine s_invV C 674 0 0 [] (zR_rv hz) dL_same_671 rfl m_L_107 (z_queryLength hz) rfl rfl rfl ⟨by decide, by decide⟩ (Nat.le_of_ble_eq_true rfl) (by omega) (by omega) ?_
                                rintro _ M9 ⟨rfl, rfl⟩
                                dsimp only [Option.toList, List.cons_append, List.nil_append]
                                refine s_lload_n C 675 dL_same_674 rfl rfl ?_
                                refine s_invS C 678 0 0 [.int (nI (tS q))] dL_same_675 rfl m_L_18 (l_size (t := q) (by first | exact hq.1.lt | exact (hg _ htT).g.lt)) rfl rfl rfl ⟨by decide, by decide⟩ (Nat.le_of_ble_eq_true rfl) (by omega) (by omega) ?_
                                rintro _ M10 ⟨rfl, rfl⟩
                                dsimp only [Option.toList, List.cons_append, List.nil_append]
                                refine s_icmp_neN C 698 681 dL_same_678 (by decide) rfl (by omega) (by omega) (fun z678 => ?_) (fun z678 => ?_)
                                · skip
                                  exact absurd rfl z678
                                · skip
                                  refine s_aload_n C 682 dL_same_681 rfl rfl ?_
                                  refine s_aload C 684 dL_same_682 rfl rfl ?_
                                  refine s_iconst C 685 (nI 0) dL_same_684 rfl (by decide) ?_
                                  refine s_iald C 686 dL_same_685 rfl hQ (by omega) (by omega) ?_
                                  rw [hQ0]
                                  refine s_iconst C 687 (nI 0) dL_same_686 rfl (by decide) ?_
                                  refine s_invV C 690 0 0 [] (zR_rv hz) dL_same_687 rfl m_L_60 (z_of hz) rfl rfl rfl ⟨by decide, by decide⟩ (Nat.le_of_ble_eq_true rfl) (by omega) (by omega) ?_
                                  rintro _ M11 ⟨rfl, hz, hF1⟩
                                  dsimp only [Option.toList, List.cons_append, List.nil_append]
                                  have hQ := hF1.at hQ (by decide)
                                  have hA := hF1.at hA (by decide)
                                  have hF := hF.tr (hF1.mono (by decide))
                                  rw [of_e hT6]
                                  refine s_iconst C 691 (-1) dL_same_690 rfl (by decide) ?_
                                  refine s_icmp_ne C 698 694 dL_same_691 (by decide) rfl (fun z691 => ?_) (fun z691 => ?_)
                                  · skip
                                    exact absurd rfl z691
                                  · skip
                                    refine s_iconst C 695 (nI 1) dL_same_694 rfl (by decide) ?_
                                    refine s_goto C 699 dL_same_695 (by decide) ?_
                                    exact s_zret C dL_same_699 Tr rfl (by decide) ⟨rfl, hz, hF⟩
                · skip
                  refine s_aload_n C 575 dL_same_574 rfl rfl ?_
                  refine s_iload C 577 dL_same_575 rfl rfl ?_
                  refine s_invV C 580 0 0 [] (zR_rv hz) dL_same_577 rfl m_L_85 (z_queryCharacter hz) rfl rfl rfl ⟨by decide, by decide⟩ (Nat.le_of_ble_eq_true rfl) (by omega) (by omega) ?_
                  rintro _ M12 ⟨rfl, rfl⟩
                  dsimp only [Option.toList, List.cons_append, List.nil_append]
                  rw [qc_v R3 (by omega)]
                  refine s_lload_n C 581 dL_same_580 rfl rfl ?_
                  refine s_iload C 583 dL_same_581 rfl rfl ?_
                  refine s_invS C 586 0 0 [.int (nI (tC (tA q k)))] dL_same_583 rfl m_L_12 (l_at (t := q) (k := k) (by first | exact hq.1.lt | exact (hg _ htT).g.lt) (by omega)) rfl rfl rfl ⟨by decide, by decide⟩ (Nat.le_of_ble_eq_true rfl) (by omega) (by omega) ?_
                  rintro _ M13 ⟨rfl, rfl⟩
                  dsimp only [Option.toList, List.cons_append, List.nil_append]
                  refine s_invS C 589 0 0 [.int (nI (tC (tA q k)))] dL_same_586 rfl m_L_30 (l_code (c := tA q k) (by omega)) rfl rfl rfl ⟨by decide, by decide⟩ (Nat.le_of_ble_eq_true rfl) (by omega) (by omega) ?_
                  rintro _ M14 ⟨rfl, rfl⟩
                  dsimp only [Option.toList, List.cons_append, List.nil_append]
                  refine s_icmp_eqN C 594 592 dL_same_589 (by decide) rfl (by omega) (by omega) (fun z589 => ?_) (fun z589 => ?_)
                  · skip
                    refine s_iinc C 597 (nI (k + 1)) dL_same_594 rfl rfl (by rw [← nI_add]; rfl) rfl ?_
                    dsimp only [List.set]
                    refine s_goto C 565 dL_same_597 (by decide) ?_
                    exact ih565 (k + 1) (by omega) (by omega)
                  · skip
                    exact absurd rfl z589
            · skip
              refine s_iload C 508 dL_same_506 rfl rfl ?_
              refine s_lload_n C 509 dL_same_508 rfl rfl ?_
              refine s_aload C 511 dL_same_509 rfl rfl ?_
              refine s_aload C 513 dL_same_511 rfl rfl ?_
              refine s_invS C 516 0 0 [] dL_same_513 rfl m_L_75 (l_ranked hQ hA hQ1 hQ2 hm ho hQ0 hT6 hg hne hok (rank := k) (by omega) hq) rfl rfl rfl ⟨by decide, by decide⟩ (Nat.le_of_ble_eq_true rfl) (by omega) (by omega) ?_
              rintro _ M15 ⟨rfl, rfl⟩
              dsimp only [Option.toList, List.cons_append, List.nil_append]
              have hrk2 := (hrk.2 k (by omega)).1
              rw [if_pos (show k < (rkN T mo od (tS q) (tF q) (lLn al) (lFl al) (lUs Q) T).1 by omega)]
              refine s_istore C 518 dL_same_516 rfl rfl rfl ?_
              dsimp only [List.set]
              refine s_aload_n C 519 dL_same_518 rfl rfl ?_
              refine s_iload C 521 dL_same_519 rfl rfl ?_
              refine s_invV C 524 0 0 [] (zR_rv hz) dL_same_521 rfl m_L_79 (z_result hz) rfl rfl rfl ⟨by decide, by decide⟩ (Nat.le_of_ble_eq_true rfl) (by omega) (by omega) ?_
              rintro _ M16 ⟨rfl, ⟨_, _, _, _, hzA⟩, hF1⟩
              dsimp only [Option.toList, List.cons_append, List.nil_append]
              have hQ := hF1.at hQ (by decide)
              have hA := hF1.at hA (by decide)
              have hF := hF.tr (hF1.mono (by decide))
              have hz := hzA.R
              rw [rs_v R1 R2 R3 (show k < 1000 by omega) hT6, if_pos (show k < (rkN T mo od (tS q) (tF q) (lLn al) (lFl al) (lUs Q) T).1 by omega)]
              refine s_iload C 526 dL_same_524 rfl rfl ?_
              refine s_icmp_neN C 554 529 dL_same_526 (by decide) rfl (by omega) (by omega) (fun z526 => ?_) (fun z526 => ?_)
              · skip
                exact absurd rfl z526
              · skip
                refine s_aload_n C 530 dL_same_529 rfl rfl ?_
                refine s_iload C 532 dL_same_530 rfl rfl ?_
                refine s_invV C 535 0 0 [] (zR_rv hz) dL_same_532 rfl m_L_82 (z_matchPlace hz) rfl rfl rfl ⟨by decide, by decide⟩ (Nat.le_of_ble_eq_true rfl) (by omega) (by omega) ?_
                rintro _ M17 ⟨rfl, ⟨_, _, _, _, hzA⟩, hF1⟩
                dsimp only [Option.toList, List.cons_append, List.nil_append]
                have hQ := hF1.at hQ (by decide)
                have hA := hF1.at hA (by decide)
                have hF := hF.tr (hF1.mono (by decide))
                have hz := hzA.R
                rw [mp_v R1 R2 R3 hT6 (by omega)]
                refine s_aload C 537 dL_same_535 rfl rfl ?_
                refine s_iload C 539 dL_same_537 rfl rfl ?_
                refine s_laldN C 540 dL_same_539 rfl hA (by omega) (by omega) ?_
                refine s_lload_n C 541 dL_same_540 rfl rfl ?_
                refine s_invS C 544 0 0 [.long (lN (al ((rkN T mo od (tS q) (tF q) (lLn al) (lFl al) (lUs Q) T).2 k))), .int (nI (plN mo (tS q) (tF q) (lLn al) (lFl al) ((rkN T mo od (tS q) (tF q) (lLn al) (lFl al) (lUs Q) T).2 k)))] dL_same_541 rfl m_L_48 (l_cut hq.1.lt) rfl rfl rfl ⟨by decide, by decide⟩ (Nat.le_of_ble_eq_true rfl) (by omega) (by omega) ?_
                rintro _ M18 ⟨rfl, rfl⟩
                dsimp only [Option.toList, List.cons_append, List.nil_append]
                refine s_aload C 546 dL_same_544 rfl rfl ?_
                refine s_iconst C 547 (nI 1) dL_same_546 rfl (by decide) ?_
                refine s_iald C 548 dL_same_547 rfl hQ (by omega) (by omega) ?_
                rw [hQ1]
                have hgk := hg ((rkN T mo od (tS q) (tF q) (lLn al) (lFl al) (lUs Q) T).2 k) (hrk.2 k (by omega)).1
                have hck : plT (al ((rkN T mo od (tS q) (tF q) (lLn al) (lFl al) (lUs Q) T).2 k)) (tCut q) mo = pmO mo (tS q) (tF q) ((lLn al) ((rkN T mo od (tS q) (tF q) (lLn al) (lFl al) (lUs Q) T).2 k)) ((lFl al) ((rkN T mo od (tS q) (tF q) (lLn al) (lFl al) (lUs Q) T).2 k)) := plT_cut hq
                have h26 : ∀ j, pmO mo (tS q) (tF q) ((lLn al) ((rkN T mo od (tS q) (tF q) (lLn al) (lFl al) (lUs Q) T).2 k)) ((lFl al) ((rkN T mo od (tS q) (tF q) (lLn al) (lFl al) (lUs Q) T).2 k)) = some j → j < 26 := fun j hj => plT_26 hgk (hck.trans hj)
                obtain ⟨pk, hpk⟩ := Option.isSome_iff_exists.mp (hrk.2 k (by omega)).2
                have hpl26 : plN mo (tS q) (tF q) (lLn al) (lFl al) ((rkN T mo od (tS q) (tF q) (lLn al) (lFl al) (lUs Q) T).2 k) < 26 := by unfold plN; rw [hpk]; exact h26 pk hpk
                refine s_invS C 551 0 0 [.int (nI (plN mo (tS q) (tF q) (lLn al) (lFl al) ((rkN T mo od (tS q) (tF q) (lLn al) (lFl al) (lUs Q) T).2 k)))] dL_same_548 rfl m_L_38 (l_place hgk hm hc60 hcp) rfl rfl rfl ⟨by decide, by decide⟩ (Nat.le_of_ble_eq_true rfl) (by omega) (by omega) ?_
                rintro _ M19 ⟨rfl, rfl⟩
                dsimp only [Option.toList, List.cons_append, List.nil_append]
                rw [hck, show oJ (pmO mo (tS q) (tF q) ((lLn al) ((rkN T mo od (tS q) (tF q) (lLn al) (lFl al) (lUs Q) T).2 k)) ((lFl al) ((rkN T mo od (tS q) (tF q) (lLn al) (lFl al) (lUs Q) T).2 k))) = nI (plN mo (tS q) (tF q) (lLn al) (lFl al) ((rkN T mo od (tS q) (tF q) (lLn al) (lFl al) (lUs Q) T).2 k)) by unfold plN; rw [hpk]; rfl]
                refine s_icmp_eqN C 556 554 dL_same_551 (by decide) rfl (by omega) (by omega) (fun z551 => ?_) (fun z551 => ?_)
                · skip
                  refine s_iinc C 559 (nI (k + 1)) dL_same_556 rfl rfl (by rw [← nI_add]; rfl) rfl ?_
                  dsimp only [List.set]
                  refine s_goto C 499 dL_same_559 (by decide) ?_
                  refine V.drop 11 ?_
                  dsimp only [List.set]
                  exact ih499 (k + 1) _ (by omega) (by omega) hz hQ hA hF
                · skip
                  exact absurd rfl z551
        · skip
          refine s_iload C 463 dL_same_461 rfl rfl ?_
          refine s_aload C 465 dL_same_463 rfl rfl ?_
          refine s_iload C 467 dL_same_465 rfl rfl ?_
          refine s_laldN C 468 dL_same_467 rfl hA (by omega) (by omega) ?_
          refine s_lload_n C 469 dL_same_468 rfl rfl ?_
          refine s_invS C 472 0 0 [.long (lN (al k)), .int (nI (cntP (fun w => (pmO mo (tS q) (tF q) ((lLn al) w) ((lFl al) w)).isSome) k))] dL_same_469 rfl m_L_48 (l_cut hq.1.lt) rfl rfl rfl ⟨by decide, by decide⟩ (Nat.le_of_ble_eq_true rfl) (by omega) (by omega) ?_
          rintro _ M20 ⟨rfl, rfl⟩
          dsimp only [Option.toList, List.cons_append, List.nil_append]
          refine s_aload C 474 dL_same_472 rfl rfl ?_
          refine s_iconst C 475 (nI 1) dL_same_474 rfl (by decide) ?_
          refine s_iald C 476 dL_same_475 rfl hQ (by omega) (by omega) ?_
          rw [hQ1]
          have hgk := hg k (by omega)
          have hck : plT (al k) (tCut q) mo = pmO mo (tS q) (tF q) ((lLn al) k) ((lFl al) k) := plT_cut hq
          have h26 : ∀ j, pmO mo (tS q) (tF q) ((lLn al) k) ((lFl al) k) = some j → j < 26 := fun j hj => plT_26 hgk (hck.trans hj)
          refine s_invS C 479 0 0 [.int (nI (cntP (fun w => (pmO mo (tS q) (tF q) ((lLn al) w) ((lFl al) w)).isSome) k))] dL_same_476 rfl m_L_38 (l_place hgk hm hc60 hcp) rfl rfl rfl ⟨by decide, by decide⟩ (Nat.le_of_ble_eq_true rfl) (by omega) (by omega) ?_
          rintro _ M21 ⟨rfl, rfl⟩
          dsimp only [Option.toList, List.cons_append, List.nil_append]
          rw [hck]
          refine s_if_ge C 486 482 dL_same_479 (by decide) rfl (fun z479 => ?_) (fun z479 => ?_)
          · skip
            obtain ⟨pk, hpk⟩ := oN_s ((oJ_ge h26).mp z479)
            have hsk : (pmO mo (tS q) (tF q) ((lLn al) k) ((lFl al) k)).isSome = true := by rw [hpk]; rfl
            refine s_iconst C 487 (nI 1) dL_same_486 rfl (by decide) ?_
            refine s_iaddN C 488 dL_same_487 rfl ?_
            refine s_istore C 490 dL_same_488 rfl rfl rfl ?_
            dsimp only [List.set]
            refine s_iinc C 493 (nI (k + 1)) dL_same_490 rfl rfl (by rw [← nI_add]; rfl) rfl ?_
            dsimp only [List.set]
            refine s_goto C 452 dL_same_493 (by decide) ?_
            have e9 : cntP (fun w => (pmO mo (tS q) (tF q) ((lLn al) w) ((lFl al) w)).isSome) (k + 1) = cntP (fun w => (pmO mo (tS q) (tF q) ((lLn al) w) ((lFl al) w)).isSome) k + 1 := by rw [cntP, if_pos hsk]
            have i9 := ih452 (k + 1) (by omega) (by omega)
            rw [e9] at i9
            exact i9
          · skip
            have hnk : (pmO mo (tS q) (tF q) ((lLn al) k) ((lFl al) k)).isSome = false := by cases e : pmO mo (tS q) (tF q) ((lLn al) k) ((lFl al) k) with | none => rfl | some j => exact absurd ((oJ_ge h26).mpr (by rw [e]; exact fun w => by cases w)) z479
            refine s_iconst C 483 (nI 0) dL_same_482 rfl (by decide) ?_
            refine s_goto C 487 dL_same_483 (by decide) ?_
            refine s_iaddN C 488 dL_same_487 rfl ?_
            refine s_istore C 490 dL_same_488 rfl rfl rfl ?_
            dsimp only [List.set]
            refine s_iinc C 493 (nI (k + 1)) dL_same_490 rfl rfl (by rw [← nI_add]; rfl) rfl ?_
            dsimp only [List.set]
            refine s_goto C 452 dL_same_493 (by decide) ?_
            have e9 : cntP (fun w => (pmO mo (tS q) (tF q) ((lLn al) w) ((lFl al) w)).isSome) (k + 1) = cntP (fun w => (pmO mo (tS q) (tF q) ((lLn al) w) ((lFl al) w)).isSome) k + 0 := by rw [cntP, if_neg (by rw [hnk]; decide)]
            have i9 := ih452 (k + 1) (by omega) (by omega)
            rw [e9] at i9
            exact i9
    · skip
      have htT : t < T := by omega
      have hgt := hg t htT
      have h12 := tS_le (t := al t)
      refine s_aload C 24 dL_same_22 rfl rfl ?_
      refine s_iload C 26 dL_same_24 rfl rfl ?_
      refine s_laldN C 27 dL_same_26 rfl hA (by omega) (by omega) ?_
      refine s_invS C 30 0 0 [] dL_same_27 rfl m_L_18 (l_size (t := al t) (by first | exact hq.1.lt | exact (hg _ htT).g.lt)) rfl rfl rfl ⟨by decide, by decide⟩ (Nat.le_of_ble_eq_true rfl) (by omega) (by omega) ?_
      rintro _ M22 ⟨rfl, rfl⟩
      dsimp only [Option.toList, List.cons_append, List.nil_append]
      refine s_istore C 32 dL_same_30 rfl rfl rfl ?_
      dsimp only [List.set]
      refine s_iconst C 33 (nI 1) dL_same_32 rfl (by decide) ?_
      refine s_istore C 35 dL_same_33 rfl rfl rfl ?_
      dsimp only [List.set]
      refine s_iconst C 36 (nI 0) dL_same_35 rfl (by decide) ?_
      refine s_istore C 38 dL_same_36 rfl rfl rfl ?_
      dsimp only [List.set]
      suffices lp38 : ∀ (fu38 : Nat) (k : Nat), 13 - k < fu38 → k ≤ tS (al t) → V X 0 0 38 [some (.ref z), some (.int x), some (.long (lN q)), none, some (.ref qa), some (.ref aa), some (.int (nI (unN T mo (lLn al) (lFl al) t))), some (.int (oI (hdN T mo (lLn al) (lFl al) t).2)), some (.int (nI ((hdN T mo (lLn al) (lFl al) t).1))), some (.int (nI t)), some (.int (nI (tS (al t)))), some (.int (nI (1 + cnB (tF (al t)) k))), some (.int (nI k)), none, none, none] [] M9 from lp38 14 0 (by omega) (by omega)
      intro fu38
      induction fu38 with
      | zero => intro k hk0 hk; omega
      | succ fu38 ih38 =>
        intro k hk0 hk
        have hA1 := tA_lt (t := al t) (k := k)
        have hC1 := tC_lt hA1
        have hcn := cnB_le (f := tF (al t)) k
        refine s_iload C 40 dL_same_38 rfl rfl ?_
        refine s_iload C 42 dL_same_40 rfl rfl ?_
        refine s_icmp_geN C 102 45 dL_same_42 (by decide) rfl (by omega) (by omega) (fun z42 => ?_) (fun z42 => ?_)
        · skip
          have hkn : k = tS (al t) := by omega
          rw [hkn]
          have hcn2 := cnB_le (f := tF (al t)) (tS (al t))
          refine s_iload C 104 dL_same_102 rfl rfl ?_
          refine s_iconst C 105 (nI 1) dL_same_104 rfl (by decide) ?_
          refine s_aload C 107 dL_same_105 rfl rfl ?_
          refine s_aload C 109 dL_same_107 rfl rfl ?_
          refine s_invS C 112 0 0 [] dL_same_109 rfl m_L_56 (l_bestK hQ hA hQ1 hQ2 hm ho hQ0 hT6 hg (t := t) htT) rfl rfl rfl ⟨by decide, by decide⟩ (Nat.le_of_ble_eq_true rfl) (by omega) (by omega) ?_
          rintro _ M23 ⟨rfl, rfl⟩
          dsimp only [Option.toList, List.cons_append, List.nil_append]
          rw [show bst (pKb T mo (lLn al) (lFl al) t) = (kyN T mo (lLn al) (lFl al) t) from rfl]
          refine s_istore C 114 dL_same_112 rfl rfl rfl ?_
          dsimp only [List.set]
          have h25y := kyN_25 (T := T) (mo := mo) (ln := (lLn al)) (fl := (lFl al)) (t := t)
          by_cases hy : 0 < (kyN T mo (lLn al) (lFl al) t).2
          · skip
            obtain ⟨e0y, e1y, e2y, e3y⟩ := kS_p hy h25y
            rw [e0y]
            have un9 := unN_p hy
            refine s_iload C 116 dL_same_114 rfl rfl ?_
            refine s_iconst C 117 (nI 0) dL_same_116 rfl (by decide) ?_
            refine s_aload C 119 dL_same_117 rfl rfl ?_
            refine s_aload C 121 dL_same_119 rfl rfl ?_
            refine s_invS C 124 0 0 [] dL_same_121 rfl m_L_56 (l_bestS hQ hA hQ1 hQ2 hm ho hQ0 hT6 hg hne hok (t := t) htT) rfl rfl rfl ⟨by decide, by decide⟩ (Nat.le_of_ble_eq_true rfl) (by omega) (by omega) ?_
            rintro _ M24 ⟨rfl, rfl⟩
            dsimp only [Option.toList, List.cons_append, List.nil_append]
            rw [show bst (pSb T mo od (lLn al) (lFl al) (lUs Q) t) = (shN T mo od (lLn al) (lFl al) (lUs Q) t) from rfl]
            refine s_istore C 126 dL_same_124 rfl rfl rfl ?_
            dsimp only [List.set]
            have h25s := shN_25 (T := T) (mo := mo) (od := od) (ln := (lLn al)) (fl := (lFl al)) (us := (lUs Q)) (t := t)
            by_cases hs : 0 < (shN T mo od (lLn al) (lFl al) (lUs Q) t).2
            · skip
              obtain ⟨e0s, e1s, e2s, e3s⟩ := kS_p hs h25s
              rw [e0s]
              refine s_aload_n C 127 dL_same_126 rfl rfl ?_
              refine s_iload C 129 dL_same_127 rfl rfl ?_
              refine s_iconst C 130 (nI 0) dL_same_129 rfl (by decide) ?_
              refine s_invV C 133 0 0 [] (zR_rv hz) dL_same_130 rfl m_L_60 (z_of hz) rfl rfl rfl ⟨by decide, by decide⟩ (Nat.le_of_ble_eq_true rfl) (by omega) (by omega) ?_
              rintro _ M25 ⟨rfl, hz, hF1⟩
              dsimp only [Option.toList, List.cons_append, List.nil_append]
              have hQ := hF1.at hQ (by decide)
              have hA := hF1.at hA (by decide)
              have hF := hF.tr (hF1.mono (by decide))
              rw [of_v R1 R2 htT hT6 (show 0 < 7 by decide), show ofN (tS (al t)) (1 + cnB (tF (al t)) (tS (al t))) (Q (3 + t)) (kyN T mo (lLn al) (lFl al) t).1 (kyN T mo (lLn al) (lFl al) t).2 (shN T mo od (lLn al) (lFl al) (lUs Q) t).1 (shN T mo od (lLn al) (lFl al) (lUs Q) t).2 0 = (nI (tS (al t))) from rfl]
              refine s_iload C 135 dL_same_133 rfl rfl ?_
              refine s_icmp_neN C 280 138 dL_same_135 (by decide) rfl (by omega) (by omega) (fun z135 => ?_) (fun z135 => ?_)
              · skip
                exact absurd rfl z135
              · skip
                refine s_aload_n C 139 dL_same_138 rfl rfl ?_
                refine s_iload C 141 dL_same_139 rfl rfl ?_
                refine s_iconst C 142 (nI 1) dL_same_141 rfl (by decide) ?_
                refine s_invV C 145 0 0 [] (zR_rv hz) dL_same_142 rfl m_L_60 (z_of hz) rfl rfl rfl ⟨by decide, by decide⟩ (Nat.le_of_ble_eq_true rfl) (by omega) (by omega) ?_
                rintro _ M26 ⟨rfl, hz, hF1⟩
                dsimp only [Option.toList, List.cons_append, List.nil_append]
                have hQ := hF1.at hQ (by decide)
                have hA := hF1.at hA (by decide)
                have hF := hF.tr (hF1.mono (by decide))
                rw [of_v R1 R2 htT hT6 (show 1 < 7 by decide), show ofN (tS (al t)) (1 + cnB (tF (al t)) (tS (al t))) (Q (3 + t)) (kyN T mo (lLn al) (lFl al) t).1 (kyN T mo (lLn al) (lFl al) t).2 (shN T mo od (lLn al) (lFl al) (lUs Q) t).1 (shN T mo od (lLn al) (lFl al) (lUs Q) t).2 1 = (nI (1 + cnB (tF (al t)) (tS (al t)))) from rfl]
                refine s_iload C 147 dL_same_145 rfl rfl ?_
                refine s_icmp_neN C 280 150 dL_same_147 (by decide) rfl (by omega) (by omega) (fun z147 => ?_) (fun z147 => ?_)
                · skip
                  exact absurd rfl z147
                · skip
                  refine s_aload_n C 151 dL_same_150 rfl rfl ?_
                  refine s_iload C 153 dL_same_151 rfl rfl ?_
                  refine s_iconst C 154 (nI 2) dL_same_153 rfl (by decide) ?_
                  refine s_invV C 157 0 0 [] (zR_rv hz) dL_same_154 rfl m_L_60 (z_of hz) rfl rfl rfl ⟨by decide, by decide⟩ (Nat.le_of_ble_eq_true rfl) (by omega) (by omega) ?_
                  rintro _ M27 ⟨rfl, hz, hF1⟩
                  dsimp only [Option.toList, List.cons_append, List.nil_append]
                  have hQ := hF1.at hQ (by decide)
                  have hA := hF1.at hA (by decide)
                  have hF := hF.tr (hF1.mono (by decide))
                  rw [of_v R1 R2 htT hT6 (show 2 < 7 by decide), show ofN (tS (al t)) (1 + cnB (tF (al t)) (tS (al t))) (Q (3 + t)) (kyN T mo (lLn al) (lFl al) t).1 (kyN T mo (lLn al) (lFl al) t).2 (shN T mo od (lLn al) (lFl al) (lUs Q) t).1 (shN T mo od (lLn al) (lFl al) (lUs Q) t).2 2 = (Q (3 + t)) from rfl]
                  refine s_aload C 159 dL_same_157 rfl rfl ?_
                  refine s_iconst C 160 (nI 3) dL_same_159 rfl (by decide) ?_
                  refine s_iload C 162 dL_same_160 rfl rfl ?_
                  refine s_iaddN C 163 dL_same_162 rfl ?_
                  refine s_iald C 164 dL_same_163 rfl hQ (by omega) (by omega) ?_
                  refine s_icmp_ne C 280 167 dL_same_164 (by decide) rfl (fun z164 => ?_) (fun z164 => ?_)
                  · skip
                    exact absurd rfl z164
                  · skip
                    refine s_aload_n C 168 dL_same_167 rfl rfl ?_
                    refine s_iload C 170 dL_same_168 rfl rfl ?_
                    refine s_iconst C 171 (nI 3) dL_same_170 rfl (by decide) ?_
                    refine s_invV C 174 0 0 [] (zR_rv hz) dL_same_171 rfl m_L_60 (z_of hz) rfl rfl rfl ⟨by decide, by decide⟩ (Nat.le_of_ble_eq_true rfl) (by omega) (by omega) ?_
                    rintro _ M28 ⟨rfl, hz, hF1⟩
                    dsimp only [Option.toList, List.cons_append, List.nil_append]
                    have hQ := hF1.at hQ (by decide)
                    have hA := hF1.at hA (by decide)
                    have hF := hF.tr (hF1.mono (by decide))
                    rw [of_v R1 R2 htT hT6 (show 3 < 7 by decide), show ofN (tS (al t)) (1 + cnB (tF (al t)) (tS (al t))) (Q (3 + t)) (kyN T mo (lLn al) (lFl al) t).1 (kyN T mo (lLn al) (lFl al) t).2 (shN T mo od (lLn al) (lFl al) (lUs Q) t).1 (shN T mo od (lLn al) (lFl al) (lUs Q) t).2 3 = (fdS (kyN T mo (lLn al) (lFl al) t)) from rfl]
                    refine s_iload C 176 dL_same_174 rfl rfl ?_
                    refine s_if_geN C 184 dL_same_176 (by decide) (by omega) ?_
                    refine s_iload C 186 dL_same_184 rfl rfl ?_
                    refine s_bipush C 188 (nI 100) dL_same_186 rfl (by decide) ?_
                    refine s_idivN C 189 dL_same_188 rfl (by omega) (by omega) (by omega) ?_
                    refine s_icmp_ne C 280 192 dL_same_189 (by decide) rfl (fun z189 => ?_) (fun z189 => ?_)
                    · skip
                      exact absurd e1y z189
                    · skip
                      refine s_aload_n C 193 dL_same_192 rfl rfl ?_
                      refine s_iload C 195 dL_same_193 rfl rfl ?_
                      refine s_iconst C 196 (nI 4) dL_same_195 rfl (by decide) ?_
                      refine s_invV C 199 0 0 [] (zR_rv hz) dL_same_196 rfl m_L_60 (z_of hz) rfl rfl rfl ⟨by decide, by decide⟩ (Nat.le_of_ble_eq_true rfl) (by omega) (by omega) ?_
                      rintro _ M29 ⟨rfl, hz, hF1⟩
                      dsimp only [Option.toList, List.cons_append, List.nil_append]
                      have hQ := hF1.at hQ (by decide)
                      have hA := hF1.at hA (by decide)
                      have hF := hF.tr (hF1.mono (by decide))
                      rw [of_v R1 R2 htT hT6 (show 4 < 7 by decide), show ofN (tS (al t)) (1 + cnB (tF (al t)) (tS (al t))) (Q (3 + t)) (kyN T mo (lLn al) (lFl al) t).1 (kyN T mo (lLn al) (lFl al) t).2 (shN T mo od (lLn al) (lFl al) (lUs Q) t).1 (shN T mo od (lLn al) (lFl al) (lUs Q) t).2 4 = (fdL (kyN T mo (lLn al) (lFl al) t)) from rfl]
                      refine s_iload C 201 dL_same_199 rfl rfl ?_
                      refine s_if_geN C 209 dL_same_201 (by decide) (by omega) ?_
                      refine s_iload C 211 dL_same_209 rfl rfl ?_
                      refine s_bipush C 213 (nI 100) dL_same_211 rfl (by decide) ?_
                      refine s_iremN C 214 dL_same_213 rfl (by omega) (by omega) (by omega) ?_
                      refine s_icmp_ne C 280 217 dL_same_214 (by decide) rfl (fun z214 => ?_) (fun z214 => ?_)
                      · skip
                        exact absurd e2y z214
                      · skip
                        refine s_aload_n C 218 dL_same_217 rfl rfl ?_
                        refine s_iload C 220 dL_same_218 rfl rfl ?_
                        refine s_iconst C 221 (nI 5) dL_same_220 rfl (by decide) ?_
                        refine s_invV C 224 0 0 [] (zR_rv hz) dL_same_221 rfl m_L_60 (z_of hz) rfl rfl rfl ⟨by decide, by decide⟩ (Nat.le_of_ble_eq_true rfl) (by omega) (by omega) ?_
                        rintro _ M30 ⟨rfl, hz, hF1⟩
                        dsimp only [Option.toList, List.cons_append, List.nil_append]
                        have hQ := hF1.at hQ (by decide)
                        have hA := hF1.at hA (by decide)
                        have hF := hF.tr (hF1.mono (by decide))
                        rw [of_v R1 R2 htT hT6 (show 5 < 7 by decide), show ofN (tS (al t)) (1 + cnB (tF (al t)) (tS (al t))) (Q (3 + t)) (kyN T mo (lLn al) (lFl al) t).1 (kyN T mo (lLn al) (lFl al) t).2 (shN T mo od (lLn al) (lFl al) (lUs Q) t).1 (shN T mo od (lLn al) (lFl al) (lUs Q) t).2 5 = (fdS (shN T mo od (lLn al) (lFl al) (lUs Q) t)) from rfl]
                        refine s_iload C 226 dL_same_224 rfl rfl ?_
                        refine s_if_geN C 234 dL_same_226 (by decide) (by omega) ?_
                        refine s_iload C 236 dL_same_234 rfl rfl ?_
                        refine s_bipush C 238 (nI 100) dL_same_236 rfl (by decide) ?_
                        refine s_idivN C 239 dL_same_238 rfl (by omega) (by omega) (by omega) ?_
                        refine s_icmp_ne C 280 242 dL_same_239 (by decide) rfl (fun z239 => ?_) (fun z239 => ?_)
                        · skip
                          exact absurd e1s z239
                        · skip
                          refine s_aload_n C 243 dL_same_242 rfl rfl ?_
                          refine s_iload C 245 dL_same_243 rfl rfl ?_
                          refine s_bipush C 247 (nI 6) dL_same_245 rfl (by decide) ?_
                          refine s_invV C 250 0 0 [] (zR_rv hz) dL_same_247 rfl m_L_60 (z_of hz) rfl rfl rfl ⟨by decide, by decide⟩ (Nat.le_of_ble_eq_true rfl) (by omega) (by omega) ?_
                          rintro _ M31 ⟨rfl, hz, hF1⟩
                          dsimp only [Option.toList, List.cons_append, List.nil_append]
                          have hQ := hF1.at hQ (by decide)
                          have hA := hF1.at hA (by decide)
                          have hF := hF.tr (hF1.mono (by decide))
                          rw [of_v R1 R2 htT hT6 (show 6 < 7 by decide), show ofN (tS (al t)) (1 + cnB (tF (al t)) (tS (al t))) (Q (3 + t)) (kyN T mo (lLn al) (lFl al) t).1 (kyN T mo (lLn al) (lFl al) t).2 (shN T mo od (lLn al) (lFl al) (lUs Q) t).1 (shN T mo od (lLn al) (lFl al) (lUs Q) t).2 6 = (fdL (shN T mo od (lLn al) (lFl al) (lUs Q) t)) from rfl]
                          refine s_iload C 252 dL_same_250 rfl rfl ?_
                          refine s_if_geN C 260 dL_same_252 (by decide) (by omega) ?_
                          refine s_iload C 262 dL_same_260 rfl rfl ?_
                          refine s_bipush C 264 (nI 100) dL_same_262 rfl (by decide) ?_
                          refine s_iremN C 265 dL_same_264 rfl (by omega) (by omega) (by omega) ?_
                          refine s_icmp_ne C 280 268 dL_same_265 (by decide) rfl (fun z265 => ?_) (fun z265 => ?_)
                          · skip
                            exact absurd e2s z265
                          · skip
                            refine s_aload_n C 269 dL_same_268 rfl rfl ?_
                            refine s_iload C 271 dL_same_269 rfl rfl ?_
                            refine s_iload C 273 dL_same_271 rfl rfl ?_
                            refine s_invV C 276 0 0 [] (zR_rv hz) dL_same_273 rfl m_L_52 (z_character hz) rfl rfl rfl ⟨by decide, by decide⟩ (Nat.le_of_ble_eq_true rfl) (by omega) (by omega) ?_
                            rintro _ M32 ⟨rfl, rfl⟩
                            dsimp only [Option.toList, List.cons_append, List.nil_append]
                            rw [ch_e R1 htT hT6]
                            refine s_iconst C 277 (-1) dL_same_276 rfl (by decide) ?_
                            refine s_icmp_eq C 282 280 dL_same_277 (by decide) rfl (fun z277 => ?_) (fun z277 => ?_)
                            · skip
                              refine s_iload C 284 dL_same_282 rfl rfl ?_
                              refine s_iload C 286 dL_same_284 rfl rfl ?_
                              refine s_if_geN C 293 dL_same_286 (by decide) (by omega) ?_
                              refine s_iconst C 294 (nI 0) dL_same_293 rfl (by decide) ?_
                              refine s_iaddN C 295 dL_same_294 rfl ?_
                              refine s_istore C 297 dL_same_295 rfl rfl rfl ?_
                              dsimp only [List.set]
                              refine s_iload C 299 dL_same_297 rfl rfl ?_
                              refine s_if_ltN C 302 (t := 323) dL_same_299 (by decide) rfl (by omega) ?_
                              refine s_iload C 304 dL_same_302 rfl rfl ?_
                              refine s_bipush C 306 (nI 100) dL_same_304 rfl (by decide) ?_
                              refine s_iremN C 307 dL_same_306 rfl (by omega) (by omega) (by omega) ?_
                              refine s_iload C 309 dL_same_307 rfl rfl ?_
                              refine s_icmp_leN C 323 312 dL_same_309 (by decide) rfl (by omega) (by omega) (fun z309 => ?_) (fun z309 => ?_)
                              · skip
                                have z309 := z309
                                have hd9 := hdN_n (show ¬ (hdN T mo (lLn al) (lFl al) t).1 < (kyN T mo (lLn al) (lFl al) t).2 by omega)
                                refine s_bipush C 325 (-6) dL_same_323 rfl (by decide) ?_
                                refine s_istore C 327 dL_same_325 rfl rfl rfl ?_
                                dsimp only [List.set]
                                refine s_aload C 329 dL_same_327 rfl rfl ?_
                                refine s_iconst C 330 (nI 0) dL_same_329 rfl (by decide) ?_
                                refine s_iald C 331 dL_same_330 rfl hQ (by omega) (by omega) ?_
                                rw [hQ0]
                                refine s_iconst C 332 (nI 1) dL_same_331 rfl (by decide) ?_
                                refine s_isubN C 333 dL_same_332 rfl (by omega) ?_
                                refine s_istore C 335 dL_same_333 rfl rfl rfl ?_
                                dsimp only [List.set]
                                rw [← nI_dec (show 0 < T by omega)]
                                suffices lp335 : ∀ (fu335 : Nat) (v : Nat) (o : Option Nat), v < fu335 → v ≤ T → nrI (cmR al t) t v T o → V X 0 0 335 [some (.ref z), some (.int x), some (.long (lN q)), none, some (.ref qa), some (.ref aa), some (.int (nI ((unN T mo (lLn al) (lFl al) t) + 0))), some (.int (oI (hdN T mo (lLn al) (lFl al) t).2)), some (.int (nI ((hdN T mo (lLn al) (lFl al) t).1))), some (.int (nI t)), some (.int (nI (tS (al t)))), some (.int (nI (1 + cnB (tF (al t)) (tS (al t))))), some (.int (nI (100 * (kyN T mo (lLn al) (lFl al) t).1 + (kyN T mo (lLn al) (lFl al) t).2))), some (.int (nI (100 * (shN T mo od (lLn al) (lFl al) (lUs Q) t).1 + (shN T mo od (lLn al) (lFl al) (lUs Q) t).2))), some (.int (oI o)), some (.int (nI v + Int32.ofInt (-1)))] [] M31 from lp335 (T + 1) T none (by omega) (Nat.le_refl _) (fun u h1 h2 => by omega)
                                intro fu335
                                induction fu335 with
                                | zero => intro v o h; omega
                                | succ fu335 ih335 =>
                                  intro v o hv0 hvT hn
                                  by_cases hv : 0 < v
                                  · skip
                                    rw [nI_dec hv]
                                    cases o with
                                    | none =>
                                      show V X 0 0 335 [some (.ref z), some (.int x), some (.long (lN q)), none, some (.ref qa), some (.ref aa), some (.int (nI ((unN T mo (lLn al) (lFl al) t) + 0))), some (.int (oI (hdN T mo (lLn al) (lFl al) t).2)), some (.int (nI ((hdN T mo (lLn al) (lFl al) t).1))), some (.int (nI t)), some (.int (nI (tS (al t)))), some (.int (nI (1 + cnB (tF (al t)) (tS (al t))))), some (.int (nI (100 * (kyN T mo (lLn al) (lFl al) t).1 + (kyN T mo (lLn al) (lFl al) t).2))), some (.int (nI (100 * (shN T mo od (lLn al) (lFl al) (lUs Q) t).1 + (shN T mo od (lLn al) (lFl al) (lUs Q) t).2))), some (.int (-6)), some (.int (nI (v - 1)))] [] M31
                                      refine s_iload C 337 dL_same_335 rfl rfl ?_
                                      refine s_if_ltN C 340 (t := 391) dL_same_337 (by decide) rfl (by omega) ?_
                                      refine s_iload C 342 dL_same_340 rfl rfl ?_
                                      refine s_iload C 344 dL_same_342 rfl rfl ?_
                                      refine s_icmp_eqN C 385 347 dL_same_344 (by decide) rfl (by omega) (by omega) (fun z344 => ?_) (fun z344 => ?_)
                                      · skip
                                        refine s_iinc C 388 (nI (v - 1) + Int32.ofInt (-1)) dL_same_385 rfl rfl rfl rfl ?_
                                        dsimp only [List.set]
                                        refine s_goto C 335 dL_same_388 (by decide) ?_
                                        exact ih335 (v - 1) none (by omega) (by omega) (nrI_t hv hn z344)
                                      · skip
                                        refine s_iload C 349 dL_same_347 rfl rfl ?_
                                        refine s_if_lt C 381 352 dL_same_349 (by decide) rfl (fun z349 => ?_) (fun z349 => ?_)
                                        · skip
                                          refine s_iload C 383 dL_same_381 rfl rfl ?_
                                          refine s_istore C 385 dL_same_383 rfl rfl rfl ?_
                                          dsimp only [List.set]
                                          refine s_iinc C 388 (nI (v - 1) + Int32.ofInt (-1)) dL_same_385 rfl rfl rfl rfl ?_
                                          dsimp only [List.set]
                                          refine s_goto C 335 dL_same_388 (by decide) ?_
                                          exact ih335 (v - 1) (some (v - 1)) (by omega) (by omega) (nrI_0 hv hvT hn z344)
                                        · skip
                                          exact absurd (by decide) z349
                                    | some b =>
                                      have hb0 := hn.2.1
                                      show V X 0 0 335 [some (.ref z), some (.int x), some (.long (lN q)), none, some (.ref qa), some (.ref aa), some (.int (nI ((unN T mo (lLn al) (lFl al) t) + 0))), some (.int (oI (hdN T mo (lLn al) (lFl al) t).2)), some (.int (nI ((hdN T mo (lLn al) (lFl al) t).1))), some (.int (nI t)), some (.int (nI (tS (al t)))), some (.int (nI (1 + cnB (tF (al t)) (tS (al t))))), some (.int (nI (100 * (kyN T mo (lLn al) (lFl al) t).1 + (kyN T mo (lLn al) (lFl al) t).2))), some (.int (nI (100 * (shN T mo od (lLn al) (lFl al) (lUs Q) t).1 + (shN T mo od (lLn al) (lFl al) (lUs Q) t).2))), some (.int (nI b)), some (.int (nI (v - 1)))] [] M31
                                      refine s_iload C 337 dL_same_335 rfl rfl ?_
                                      refine s_if_ltN C 340 (t := 391) dL_same_337 (by decide) rfl (by omega) ?_
                                      refine s_iload C 342 dL_same_340 rfl rfl ?_
                                      refine s_iload C 344 dL_same_342 rfl rfl ?_
                                      refine s_icmp_eqN C 385 347 dL_same_344 (by decide) rfl (by omega) (by omega) (fun z344 => ?_) (fun z344 => ?_)
                                      · skip
                                        refine s_iinc C 388 (nI (v - 1) + Int32.ofInt (-1)) dL_same_385 rfl rfl rfl rfl ?_
                                        dsimp only [List.set]
                                        refine s_goto C 335 dL_same_388 (by decide) ?_
                                        exact ih335 (v - 1) (some b) (by omega) (by omega) (nrI_t hv hn z344)
                                      · skip
                                        refine s_iload C 349 dL_same_347 rfl rfl ?_
                                        refine s_if_ltN C 352 (t := 381) dL_same_349 (by decide) rfl (by omega) ?_
                                        refine s_aload C 354 dL_same_352 rfl rfl ?_
                                        refine s_iload C 356 dL_same_354 rfl rfl ?_
                                        refine s_laldN C 357 dL_same_356 rfl hA (by omega) (by omega) ?_
                                        refine s_aload C 359 dL_same_357 rfl rfl ?_
                                        refine s_iload C 361 dL_same_359 rfl rfl ?_
                                        refine s_laldN C 362 dL_same_361 rfl hA (by omega) (by omega) ?_
                                        refine s_invS C 365 0 0 [] dL_same_362 rfl m_L_63 (l_common (hg t (by omega)) (hg (v - 1) (by omega))) rfl rfl rfl ⟨by decide, by decide⟩ (Nat.le_of_ble_eq_true rfl) (by omega) (by omega) ?_
                                        rintro _ M33 ⟨rfl, rfl⟩
                                        dsimp only [Option.toList, List.cons_append, List.nil_append]
                                        rw [show cmI (tF (al t)) (tF (al (v - 1))) (tS (al t)) (tS (al (v - 1))) (tS (al t)) = cmR al t (v - 1) from rfl]
                                        have hcm_34 := cmR_le (al := al) (t := t) (u := (v - 1))
                                        refine s_aload C 367 dL_same_365 rfl rfl ?_
                                        refine s_iload C 369 dL_same_367 rfl rfl ?_
                                        refine s_laldN C 370 dL_same_369 rfl hA (by omega) (by omega) ?_
                                        refine s_aload C 372 dL_same_370 rfl rfl ?_
                                        refine s_iload C 374 dL_same_372 rfl rfl ?_
                                        refine s_laldN C 375 dL_same_374 rfl hA (by omega) (by omega) ?_
                                        refine s_invS C 378 0 0 [.int (nI (cmR al t (v - 1)))] dL_same_375 rfl m_L_63 (l_common (hg t (by omega)) (hg b (by omega))) rfl rfl rfl ⟨by decide, by decide⟩ (Nat.le_of_ble_eq_true rfl) (by omega) (by omega) ?_
                                        rintro _ M35 ⟨rfl, rfl⟩
                                        dsimp only [Option.toList, List.cons_append, List.nil_append]
                                        rw [show cmI (tF (al t)) (tF (al b)) (tS (al t)) (tS (al b)) (tS (al t)) = cmR al t b from rfl]
                                        have hcm_36 := cmR_le (al := al) (t := t) (u := b)
                                        refine s_icmp_ltN C 385 381 dL_same_378 (by decide) rfl (by omega) (by omega) (fun z378 => ?_) (fun z378 => ?_)
                                        · skip
                                          refine s_iinc C 388 (nI (v - 1) + Int32.ofInt (-1)) dL_same_385 rfl rfl rfl rfl ?_
                                          dsimp only [List.set]
                                          refine s_goto C 335 dL_same_388 (by decide) ?_
                                          exact ih335 (v - 1) (some b) (by omega) (by omega) (nrI_n hv hn z378)
                                        · skip
                                          refine s_iload C 383 dL_same_381 rfl rfl ?_
                                          refine s_istore C 385 dL_same_383 rfl rfl rfl ?_
                                          dsimp only [List.set]
                                          refine s_iinc C 388 (nI (v - 1) + Int32.ofInt (-1)) dL_same_385 rfl rfl rfl rfl ?_
                                          dsimp only [List.set]
                                          refine s_goto C 335 dL_same_388 (by decide) ?_
                                          exact ih335 (v - 1) (some (v - 1)) (by omega) (by omega) (nrI_y hv hvT hn z344 z378)
                                  · skip
                                    have hv9 : v = 0 := by omega
                                    subst hv9
                                    have hnear : oI (clN (cmR al t) t T) = oI o := congrArg oI (nrI_un (nrI_cl T) hn)
                                    refine s_iload C 337 dL_same_335 rfl rfl ?_
                                    refine s_if_lt C 391 340 dL_same_337 (by decide) rfl (fun z337 => ?_) (fun z337 => ?_)
                                    · skip
                                      refine s_aload_n C 392 dL_same_391 rfl rfl ?_
                                      refine s_iload C 394 dL_same_392 rfl rfl ?_
                                      refine s_invV C 397 0 0 [] (zR_rv hz) dL_same_394 rfl m_L_67 (z_closest hz) rfl rfl rfl ⟨by decide, by decide⟩ (Nat.le_of_ble_eq_true rfl) (by omega) (by omega) ?_
                                      rintro _ M37 ⟨rfl, rfl⟩
                                      dsimp only [Option.toList, List.cons_append, List.nil_append]
                                      rw [cl_v R1 htT hT6]
                                      refine s_iload C 399 dL_same_397 rfl rfl ?_
                                      refine s_icmp_ne C 438 402 dL_same_399 (by decide) rfl (fun z399 => ?_) (fun z399 => ?_)
                                      · skip
                                        exact absurd hnear z399
                                      · skip
                                        refine s_aload_n C 403 dL_same_402 rfl rfl ?_
                                        refine s_iload C 405 dL_same_403 rfl rfl ?_
                                        refine s_iload_n C 406 dL_same_405 rfl rfl ?_
                                        refine s_aload C 408 dL_same_406 rfl rfl ?_
                                        refine s_iconst C 409 (nI 0) dL_same_408 rfl (by decide) ?_
                                        refine s_iald C 410 dL_same_409 rfl hQ (by omega) (by omega) ?_
                                        rw [hQ0]
                                        have hlw := lw_lt (v := x) (m := T) (by omega)
                                        refine s_invS C 413 0 0 [.int (nI t), .ref z] dL_same_410 rfl m_L_70 (l_low (v := x) (m := T) (by omega) (by omega)) rfl rfl rfl ⟨by decide, by decide⟩ (Nat.le_of_ble_eq_true rfl) (by omega) (by omega) ?_
                                        rintro _ M38 ⟨rfl, rfl⟩
                                        dsimp only [Option.toList, List.cons_append, List.nil_append]
                                        have hcm0 := cmR_le (al := al) (t := t) (u := lw x T)
                                        refine s_invV C 416 0 0 [] (zR_rv hz) dL_same_413 rfl m_L_73 (z_common hz) rfl rfl rfl ⟨by decide, by decide⟩ (Nat.le_of_ble_eq_true rfl) (by omega) (by omega) ?_
                                        rintro _ M39 ⟨rfl, rfl⟩
                                        dsimp only [Option.toList, List.cons_append, List.nil_append]
                                        rw [cm_v R1 htT hlw hT6]
                                        refine s_aload C 418 dL_same_416 rfl rfl ?_
                                        refine s_iload C 420 dL_same_418 rfl rfl ?_
                                        refine s_laldN C 421 dL_same_420 rfl hA (by omega) (by omega) ?_
                                        refine s_aload C 423 dL_same_421 rfl rfl ?_
                                        refine s_iload_n C 424 dL_same_423 rfl rfl ?_
                                        refine s_aload C 426 dL_same_424 rfl rfl ?_
                                        refine s_iconst C 427 (nI 0) dL_same_426 rfl (by decide) ?_
                                        refine s_iald C 428 dL_same_427 rfl hQ (by omega) (by omega) ?_
                                        rw [hQ0]
                                        have hlw := lw_lt (v := x) (m := T) (by omega)
                                        refine s_invS C 431 0 0 [.ref aa, .long (lN (al t)), .int (nI (cmR al t (lw x T)))] dL_same_428 rfl m_L_70 (l_low (v := x) (m := T) (by omega) (by omega)) rfl rfl rfl ⟨by decide, by decide⟩ (Nat.le_of_ble_eq_true rfl) (by omega) (by omega) ?_
                                        rintro _ M40 ⟨rfl, rfl⟩
                                        dsimp only [Option.toList, List.cons_append, List.nil_append]
                                        refine s_laldN C 432 dL_same_431 rfl hA (by omega) (by omega) ?_
                                        refine s_invS C 435 0 0 [.int (nI (cmR al t (lw x T)))] dL_same_432 rfl m_L_63 (l_common (hg t (by omega)) (hg (lw x T) (by omega))) rfl rfl rfl ⟨by decide, by decide⟩ (Nat.le_of_ble_eq_true rfl) (by omega) (by omega) ?_
                                        rintro _ M41 ⟨rfl, rfl⟩
                                        dsimp only [Option.toList, List.cons_append, List.nil_append]
                                        rw [show cmI (tF (al t)) (tF (al (lw x T))) (tS (al t)) (tS (al (lw x T))) (tS (al t)) = cmR al t (lw x T) from rfl]
                                        have hcm_42 := cmR_le (al := al) (t := t) (u := (lw x T))
                                        refine s_icmp_eqN C 440 438 dL_same_435 (by decide) rfl (by omega) (by omega) (fun z435 => ?_) (fun z435 => ?_)
                                        · skip
                                          refine s_iinc C 443 (nI (t + 1)) dL_same_440 rfl rfl (by rw [← nI_add]; rfl) rfl ?_
                                          dsimp only [List.set]
                                          refine s_goto C 13 dL_same_443 (by decide) ?_
                                          refine V.drop 10 ?_
                                          dsimp only [List.set]
                                          refine V.drop 11 ?_
                                          dsimp only [List.set]
                                          refine V.drop 12 ?_
                                          dsimp only [List.set]
                                          refine V.drop 13 ?_
                                          dsimp only [List.set]
                                          refine V.drop 14 ?_
                                          dsimp only [List.set]
                                          refine V.drop 15 ?_
                                          dsimp only [List.set]
                                          have i9 := ih13 (t + 1) _ (by omega) (by omega) hz hQ hA hF
                                          rw [un9, hd9] at i9
                                          exact i9
                                        · skip
                                          exact absurd rfl z435
                                    · skip
                                      exact absurd (by decide) z337
                              · skip
                                have hd9 := hdN_y (show (hdN T mo (lLn al) (lFl al) t).1 < (kyN T mo (lLn al) (lFl al) t).2 by omega)
                                refine s_iload C 314 dL_same_312 rfl rfl ?_
                                refine s_bipush C 316 (nI 100) dL_same_314 rfl (by decide) ?_
                                refine s_iremN C 317 dL_same_316 rfl (by omega) (by omega) (by omega) ?_
                                refine s_istore C 319 dL_same_317 rfl rfl rfl ?_
                                dsimp only [List.set]
                                refine s_iload C 321 dL_same_319 rfl rfl ?_
                                refine s_istore C 323 dL_same_321 rfl rfl rfl ?_
                                dsimp only [List.set]
                                rw [e3y]
                                refine s_bipush C 325 (-6) dL_same_323 rfl (by decide) ?_
                                refine s_istore C 327 dL_same_325 rfl rfl rfl ?_
                                dsimp only [List.set]
                                refine s_aload C 329 dL_same_327 rfl rfl ?_
                                refine s_iconst C 330 (nI 0) dL_same_329 rfl (by decide) ?_
                                refine s_iald C 331 dL_same_330 rfl hQ (by omega) (by omega) ?_
                                rw [hQ0]
                                refine s_iconst C 332 (nI 1) dL_same_331 rfl (by decide) ?_
                                refine s_isubN C 333 dL_same_332 rfl (by omega) ?_
                                refine s_istore C 335 dL_same_333 rfl rfl rfl ?_
                                dsimp only [List.set]
                                rw [← nI_dec (show 0 < T by omega)]
                                suffices lp335 : ∀ (fu335 : Nat) (v : Nat) (o : Option Nat), v < fu335 → v ≤ T → nrI (cmR al t) t v T o → V X 0 0 335 [some (.ref z), some (.int x), some (.long (lN q)), none, some (.ref qa), some (.ref aa), some (.int (nI ((unN T mo (lLn al) (lFl al) t) + 0))), some (.int (oI (some t))), some (.int (nI ((kyN T mo (lLn al) (lFl al) t).2))), some (.int (nI t)), some (.int (nI (tS (al t)))), some (.int (nI (1 + cnB (tF (al t)) (tS (al t))))), some (.int (nI (100 * (kyN T mo (lLn al) (lFl al) t).1 + (kyN T mo (lLn al) (lFl al) t).2))), some (.int (nI (100 * (shN T mo od (lLn al) (lFl al) (lUs Q) t).1 + (shN T mo od (lLn al) (lFl al) (lUs Q) t).2))), some (.int (oI o)), some (.int (nI v + Int32.ofInt (-1)))] [] M31 from lp335 (T + 1) T none (by omega) (Nat.le_refl _) (fun u h1 h2 => by omega)
                                intro fu335
                                induction fu335 with
                                | zero => intro v o h; omega
                                | succ fu335 ih335 =>
                                  intro v o hv0 hvT hn
                                  by_cases hv : 0 < v
                                  · skip
                                    rw [nI_dec hv]
                                    cases o with
                                    | none =>
                                      show V X 0 0 335 [some (.ref z), some (.int x), some (.long (lN q)), none, some (.ref qa), some (.ref aa), some (.int (nI ((unN T mo (lLn al) (lFl al) t) + 0))), some (.int (oI (some t))), some (.int (nI ((kyN T mo (lLn al) (lFl al) t).2))), some (.int (nI t)), some (.int (nI (tS (al t)))), some (.int (nI (1 + cnB (tF (al t)) (tS (al t))))), some (.int (nI (100 * (kyN T mo (lLn al) (lFl al) t).1 + (kyN T mo (lLn al) (lFl al) t).2))), some (.int (nI (100 * (shN T mo od (lLn al) (lFl al) (lUs Q) t).1 + (shN T mo od (lLn al) (lFl al) (lUs Q) t).2))), some (.int (-6)), some (.int (nI (v - 1)))] [] M31
                                      refine s_iload C 337 dL_same_335 rfl rfl ?_
                                      refine s_if_ltN C 340 (t := 391) dL_same_337 (by decide) rfl (by omega) ?_
                                      refine s_iload C 342 dL_same_340 rfl rfl ?_
                                      refine s_iload C 344 dL_same_342 rfl rfl ?_
                                      refine s_icmp_eqN C 385 347 dL_same_344 (by decide) rfl (by omega) (by omega) (fun z344 => ?_) (fun z344 => ?_)
                                      · skip
                                        refine s_iinc C 388 (nI (v - 1) + Int32.ofInt (-1)) dL_same_385 rfl rfl rfl rfl ?_
                                        dsimp only [List.set]
                                        refine s_goto C 335 dL_same_388 (by decide) ?_
                                        exact ih335 (v - 1) none (by omega) (by omega) (nrI_t hv hn z344)
                                      · skip
                                        refine s_iload C 349 dL_same_347 rfl rfl ?_
                                        refine s_if_lt C 381 352 dL_same_349 (by decide) rfl (fun z349 => ?_) (fun z349 => ?_)
                                        · skip
                                          refine s_iload C 383 dL_same_381 rfl rfl ?_
                                          refine s_istore C 385 dL_same_383 rfl rfl rfl ?_
                                          dsimp only [List.set]
                                          refine s_iinc C 388 (nI (v - 1) + Int32.ofInt (-1)) dL_same_385 rfl rfl rfl rfl ?_
                                          dsimp only [List.set]
                                          refine s_goto C 335 dL_same_388 (by decide) ?_
                                          exact ih335 (v - 1) (some (v - 1)) (by omega) (by omega) (nrI_0 hv hvT hn z344)
                                        · skip
                                          exact absurd (by decide) z349
                                    | some b =>
                                      have hb0 := hn.2.1
                                      show V X 0 0 335 [some (.ref z), some (.int x), some (.long (lN q)), none, some (.ref qa), some (.ref aa), some (.int (nI ((unN T mo (lLn al) (lFl al) t) + 0))), some (.int (oI (some t))), some (.int (nI ((kyN T mo (lLn al) (lFl al) t).2))), some (.int (nI t)), some (.int (nI (tS (al t)))), some (.int (nI (1 + cnB (tF (al t)) (tS (al t))))), some (.int (nI (100 * (kyN T mo (lLn al) (lFl al) t).1 + (kyN T mo (lLn al) (lFl al) t).2))), some (.int (nI (100 * (shN T mo od (lLn al) (lFl al) (lUs Q) t).1 + (shN T mo od (lLn al) (lFl al) (lUs Q) t).2))), some (.int (nI b)), some (.int (nI (v - 1)))] [] M31
                                      refine s_iload C 337 dL_same_335 rfl rfl ?_
                                      refine s_if_ltN C 340 (t := 391) dL_same_337 (by decide) rfl (by omega) ?_
                                      refine s_iload C 342 dL_same_340 rfl rfl ?_
                                      refine s_iload C 344 dL_same_342 rfl rfl ?_
                                      refine s_icmp_eqN C 385 347 dL_same_344 (by decide) rfl (by omega) (by omega) (fun z344 => ?_) (fun z344 => ?_)
                                      · skip
                                        refine s_iinc C 388 (nI (v - 1) + Int32.ofInt (-1)) dL_same_385 rfl rfl rfl rfl ?_
                                        dsimp only [List.set]
                                        refine s_goto C 335 dL_same_388 (by decide) ?_
                                        exact ih335 (v - 1) (some b) (by omega) (by omega) (nrI_t hv hn z344)
                                      · skip
                                        refine s_iload C 349 dL_same_347 rfl rfl ?_
                                        refine s_if_ltN C 352 (t := 381) dL_same_349 (by decide) rfl (by omega) ?_
                                        refine s_aload C 354 dL_same_352 rfl rfl ?_
                                        refine s_iload C 356 dL_same_354 rfl rfl ?_
                                        refine s_laldN C 357 dL_same_356 rfl hA (by omega) (by omega) ?_
                                        refine s_aload C 359 dL_same_357 rfl rfl ?_
                                        refine s_iload C 361 dL_same_359 rfl rfl ?_
                                        refine s_laldN C 362 dL_same_361 rfl hA (by omega) (by omega) ?_
                                        refine s_invS C 365 0 0 [] dL_same_362 rfl m_L_63 (l_common (hg t (by omega)) (hg (v - 1) (by omega))) rfl rfl rfl ⟨by decide, by decide⟩ (Nat.le_of_ble_eq_true rfl) (by omega) (by omega) ?_
                                        rintro _ M43 ⟨rfl, rfl⟩
                                        dsimp only [Option.toList, List.cons_append, List.nil_append]
                                        rw [show cmI (tF (al t)) (tF (al (v - 1))) (tS (al t)) (tS (al (v - 1))) (tS (al t)) = cmR al t (v - 1) from rfl]
                                        have hcm_44 := cmR_le (al := al) (t := t) (u := (v - 1))
                                        refine s_aload C 367 dL_same_365 rfl rfl ?_
                                        refine s_iload C 369 dL_same_367 rfl rfl ?_
                                        refine s_laldN C 370 dL_same_369 rfl hA (by omega) (by omega) ?_
                                        refine s_aload C 372 dL_same_370 rfl rfl ?_
                                        refine s_iload C 374 dL_same_372 rfl rfl ?_
                                        refine s_laldN C 375 dL_same_374 rfl hA (by omega) (by omega) ?_
                                        refine s_invS C 378 0 0 [.int (nI (cmR al t (v - 1)))] dL_same_375 rfl m_L_63 (l_common (hg t (by omega)) (hg b (by omega))) rfl rfl rfl ⟨by decide, by decide⟩ (Nat.le_of_ble_eq_true rfl) (by omega) (by omega) ?_
                                        rintro _ M45 ⟨rfl, rfl⟩
                                        dsimp only [Option.toList, List.cons_append, List.nil_append]
                                        rw [show cmI (tF (al t)) (tF (al b)) (tS (al t)) (tS (al b)) (tS (al t)) = cmR al t b from rfl]
                                        have hcm_46 := cmR_le (al := al) (t := t) (u := b)
                                        refine s_icmp_ltN C 385 381 dL_same_378 (by decide) rfl (by omega) (by omega) (fun z378 => ?_) (fun z378 => ?_)
                                        · skip
                                          refine s_iinc C 388 (nI (v - 1) + Int32.ofInt (-1)) dL_same_385 rfl rfl rfl rfl ?_
                                          dsimp only [List.set]
                                          refine s_goto C 335 dL_same_388 (by decide) ?_
                                          exact ih335 (v - 1) (some b) (by omega) (by omega) (nrI_n hv hn z378)
                                        · skip
                                          refine s_iload C 383 dL_same_381 rfl rfl ?_
                                          refine s_istore C 385 dL_same_383 rfl rfl rfl ?_
                                          dsimp only [List.set]
                                          refine s_iinc C 388 (nI (v - 1) + Int32.ofInt (-1)) dL_same_385 rfl rfl rfl rfl ?_
                                          dsimp only [List.set]
                                          refine s_goto C 335 dL_same_388 (by decide) ?_
                                          exact ih335 (v - 1) (some (v - 1)) (by omega) (by omega) (nrI_y hv hvT hn z344 z378)
                                  · skip
                                    have hv9 : v = 0 := by omega
                                    subst hv9
                                    have hnear : oI (clN (cmR al t) t T) = oI o := congrArg oI (nrI_un (nrI_cl T) hn)
                                    refine s_iload C 337 dL_same_335 rfl rfl ?_
                                    refine s_if_lt C 391 340 dL_same_337 (by decide) rfl (fun z337 => ?_) (fun z337 => ?_)
                                    · skip
                                      refine s_aload_n C 392 dL_same_391 rfl rfl ?_
                                      refine s_iload C 394 dL_same_392 rfl rfl ?_
                                      refine s_invV C 397 0 0 [] (zR_rv hz) dL_same_394 rfl m_L_67 (z_closest hz) rfl rfl rfl ⟨by decide, by decide⟩ (Nat.le_of_ble_eq_true rfl) (by omega) (by omega) ?_
                                      rintro _ M47 ⟨rfl, rfl⟩
                                      dsimp only [Option.toList, List.cons_append, List.nil_append]
                                      rw [cl_v R1 htT hT6]
                                      refine s_iload C 399 dL_same_397 rfl rfl ?_
                                      refine s_icmp_ne C 438 402 dL_same_399 (by decide) rfl (fun z399 => ?_) (fun z399 => ?_)
                                      · skip
                                        exact absurd hnear z399
                                      · skip
                                        refine s_aload_n C 403 dL_same_402 rfl rfl ?_
                                        refine s_iload C 405 dL_same_403 rfl rfl ?_
                                        refine s_iload_n C 406 dL_same_405 rfl rfl ?_
                                        refine s_aload C 408 dL_same_406 rfl rfl ?_
                                        refine s_iconst C 409 (nI 0) dL_same_408 rfl (by decide) ?_
                                        refine s_iald C 410 dL_same_409 rfl hQ (by omega) (by omega) ?_
                                        rw [hQ0]
                                        have hlw := lw_lt (v := x) (m := T) (by omega)
                                        refine s_invS C 413 0 0 [.int (nI t), .ref z] dL_same_410 rfl m_L_70 (l_low (v := x) (m := T) (by omega) (by omega)) rfl rfl rfl ⟨by decide, by decide⟩ (Nat.le_of_ble_eq_true rfl) (by omega) (by omega) ?_
                                        rintro _ M48 ⟨rfl, rfl⟩
                                        dsimp only [Option.toList, List.cons_append, List.nil_append]
                                        have hcm0 := cmR_le (al := al) (t := t) (u := lw x T)
                                        refine s_invV C 416 0 0 [] (zR_rv hz) dL_same_413 rfl m_L_73 (z_common hz) rfl rfl rfl ⟨by decide, by decide⟩ (Nat.le_of_ble_eq_true rfl) (by omega) (by omega) ?_
                                        rintro _ M49 ⟨rfl, rfl⟩
                                        dsimp only [Option.toList, List.cons_append, List.nil_append]
                                        rw [cm_v R1 htT hlw hT6]
                                        refine s_aload C 418 dL_same_416 rfl rfl ?_
                                        refine s_iload C 420 dL_same_418 rfl rfl ?_
                                        refine s_laldN C 421 dL_same_420 rfl hA (by omega) (by omega) ?_
                                        refine s_aload C 423 dL_same_421 rfl rfl ?_
                                        refine s_iload_n C 424 dL_same_423 rfl rfl ?_
                                        refine s_aload C 426 dL_same_424 rfl rfl ?_
                                        refine s_iconst C 427 (nI 0) dL_same_426 rfl (by decide) ?_
                                        refine s_iald C 428 dL_same_427 rfl hQ (by omega) (by omega) ?_
                                        rw [hQ0]
                                        have hlw := lw_lt (v := x) (m := T) (by omega)
                                        refine s_invS C 431 0 0 [.ref aa, .long (lN (al t)), .int (nI (cmR al t (lw x T)))] dL_same_428 rfl m_L_70 (l_low (v := x) (m := T) (by omega) (by omega)) rfl rfl rfl ⟨by decide, by decide⟩ (Nat.le_of_ble_eq_true rfl) (by omega) (by omega) ?_
                                        rintro _ M50 ⟨rfl, rfl⟩
                                        dsimp only [Option.toList, List.cons_append, List.nil_append]
                                        refine s_laldN C 432 dL_same_431 rfl hA (by omega) (by omega) ?_
                                        refine s_invS C 435 0 0 [.int (nI (cmR al t (lw x T)))] dL_same_432 rfl m_L_63 (l_common (hg t (by omega)) (hg (lw x T) (by omega))) rfl rfl rfl ⟨by decide, by decide⟩ (Nat.le_of_ble_eq_true rfl) (by omega) (by omega) ?_
                                        rintro _ M51 ⟨rfl, rfl⟩
                                        dsimp only [Option.toList, List.cons_append, List.nil_append]
                                        rw [show cmI (tF (al t)) (tF (al (lw x T))) (tS (al t)) (tS (al (lw x T))) (tS (al t)) = cmR al t (lw x T) from rfl]
                                        have hcm_52 := cmR_le (al := al) (t := t) (u := (lw x T))
                                        refine s_icmp_eqN C 440 438 dL_same_435 (by decide) rfl (by omega) (by omega) (fun z435 => ?_) (fun z435 => ?_)
                                        · skip
                                          refine s_iinc C 443 (nI (t + 1)) dL_same_440 rfl rfl (by rw [← nI_add]; rfl) rfl ?_
                                          dsimp only [List.set]
                                          refine s_goto C 13 dL_same_443 (by decide) ?_
                                          refine V.drop 10 ?_
                                          dsimp only [List.set]
                                          refine V.drop 11 ?_
                                          dsimp only [List.set]
                                          refine V.drop 12 ?_
                                          dsimp only [List.set]
                                          refine V.drop 13 ?_
                                          dsimp only [List.set]
                                          refine V.drop 14 ?_
                                          dsimp only [List.set]
                                          refine V.drop 15 ?_
                                          dsimp only [List.set]
                                          have i9 := ih13 (t + 1) _ (by omega) (by omega) hz hQ hA hF
                                          rw [un9, hd9] at i9
                                          exact i9
                                        · skip
                                          exact absurd rfl z435
                                    · skip
                                      exact absurd (by decide) z337
                            · skip
                              exact absurd rfl z277
            · skip
              obtain ⟨e0s, e1s, e2s⟩ := kS_n hs
              rw [e0s]
              refine s_aload_n C 127 dL_same_126 rfl rfl ?_
              refine s_iload C 129 dL_same_127 rfl rfl ?_
              refine s_iconst C 130 (nI 0) dL_same_129 rfl (by decide) ?_
              refine s_invV C 133 0 0 [] (zR_rv hz) dL_same_130 rfl m_L_60 (z_of hz) rfl rfl rfl ⟨by decide, by decide⟩ (Nat.le_of_ble_eq_true rfl) (by omega) (by omega) ?_
              rintro _ M53 ⟨rfl, hz, hF1⟩
              dsimp only [Option.toList, List.cons_append, List.nil_append]
              have hQ := hF1.at hQ (by decide)
              have hA := hF1.at hA (by decide)
              have hF := hF.tr (hF1.mono (by decide))
              rw [of_v R1 R2 htT hT6 (show 0 < 7 by decide), show ofN (tS (al t)) (1 + cnB (tF (al t)) (tS (al t))) (Q (3 + t)) (kyN T mo (lLn al) (lFl al) t).1 (kyN T mo (lLn al) (lFl al) t).2 (shN T mo od (lLn al) (lFl al) (lUs Q) t).1 (shN T mo od (lLn al) (lFl al) (lUs Q) t).2 0 = (nI (tS (al t))) from rfl]
              refine s_iload C 135 dL_same_133 rfl rfl ?_
              refine s_icmp_neN C 280 138 dL_same_135 (by decide) rfl (by omega) (by omega) (fun z135 => ?_) (fun z135 => ?_)
              · skip
                exact absurd rfl z135
              · skip
                refine s_aload_n C 139 dL_same_138 rfl rfl ?_
                refine s_iload C 141 dL_same_139 rfl rfl ?_
                refine s_iconst C 142 (nI 1) dL_same_141 rfl (by decide) ?_
                refine s_invV C 145 0 0 [] (zR_rv hz) dL_same_142 rfl m_L_60 (z_of hz) rfl rfl rfl ⟨by decide, by decide⟩ (Nat.le_of_ble_eq_true rfl) (by omega) (by omega) ?_
                rintro _ M54 ⟨rfl, hz, hF1⟩
                dsimp only [Option.toList, List.cons_append, List.nil_append]
                have hQ := hF1.at hQ (by decide)
                have hA := hF1.at hA (by decide)
                have hF := hF.tr (hF1.mono (by decide))
                rw [of_v R1 R2 htT hT6 (show 1 < 7 by decide), show ofN (tS (al t)) (1 + cnB (tF (al t)) (tS (al t))) (Q (3 + t)) (kyN T mo (lLn al) (lFl al) t).1 (kyN T mo (lLn al) (lFl al) t).2 (shN T mo od (lLn al) (lFl al) (lUs Q) t).1 (shN T mo od (lLn al) (lFl al) (lUs Q) t).2 1 = (nI (1 + cnB (tF (al t)) (tS (al t)))) from rfl]
                refine s_iload C 147 dL_same_145 rfl rfl ?_
                refine s_icmp_neN C 280 150 dL_same_147 (by decide) rfl (by omega) (by omega) (fun z147 => ?_) (fun z147 => ?_)
                · skip
                  exact absurd rfl z147
                · skip
                  refine s_aload_n C 151 dL_same_150 rfl rfl ?_
                  refine s_iload C 153 dL_same_151 rfl rfl ?_
                  refine s_iconst C 154 (nI 2) dL_same_153 rfl (by decide) ?_
                  refine s_invV C 157 0 0 [] (zR_rv hz) dL_same_154 rfl m_L_60 (z_of hz) rfl rfl rfl ⟨by decide, by decide⟩ (Nat.le_of_ble_eq_true rfl) (by omega) (by omega) ?_
                  rintro _ M55 ⟨rfl, hz, hF1⟩
                  dsimp only [Option.toList, List.cons_append, List.nil_append]
                  have hQ := hF1.at hQ (by decide)
                  have hA := hF1.at hA (by decide)
                  have hF := hF.tr (hF1.mono (by decide))
                  rw [of_v R1 R2 htT hT6 (show 2 < 7 by decide), show ofN (tS (al t)) (1 + cnB (tF (al t)) (tS (al t))) (Q (3 + t)) (kyN T mo (lLn al) (lFl al) t).1 (kyN T mo (lLn al) (lFl al) t).2 (shN T mo od (lLn al) (lFl al) (lUs Q) t).1 (shN T mo od (lLn al) (lFl al) (lUs Q) t).2 2 = (Q (3 + t)) from rfl]
                  refine s_aload C 159 dL_same_157 rfl rfl ?_
                  refine s_iconst C 160 (nI 3) dL_same_159 rfl (by decide) ?_
                  refine s_iload C 162 dL_same_160 rfl rfl ?_
                  refine s_iaddN C 163 dL_same_162 rfl ?_
                  refine s_iald C 164 dL_same_163 rfl hQ (by omega) (by omega) ?_
                  refine s_icmp_ne C 280 167 dL_same_164 (by decide) rfl (fun z164 => ?_) (fun z164 => ?_)
                  · skip
                    exact absurd rfl z164
                  · skip
                    refine s_aload_n C 168 dL_same_167 rfl rfl ?_
                    refine s_iload C 170 dL_same_168 rfl rfl ?_
                    refine s_iconst C 171 (nI 3) dL_same_170 rfl (by decide) ?_
                    refine s_invV C 174 0 0 [] (zR_rv hz) dL_same_171 rfl m_L_60 (z_of hz) rfl rfl rfl ⟨by decide, by decide⟩ (Nat.le_of_ble_eq_true rfl) (by omega) (by omega) ?_
                    rintro _ M56 ⟨rfl, hz, hF1⟩
                    dsimp only [Option.toList, List.cons_append, List.nil_append]
                    have hQ := hF1.at hQ (by decide)
                    have hA := hF1.at hA (by decide)
                    have hF := hF.tr (hF1.mono (by decide))
                    rw [of_v R1 R2 htT hT6 (show 3 < 7 by decide), show ofN (tS (al t)) (1 + cnB (tF (al t)) (tS (al t))) (Q (3 + t)) (kyN T mo (lLn al) (lFl al) t).1 (kyN T mo (lLn al) (lFl al) t).2 (shN T mo od (lLn al) (lFl al) (lUs Q) t).1 (shN T mo od (lLn al) (lFl al) (lUs Q) t).2 3 = (fdS (kyN T mo (lLn al) (lFl al) t)) from rfl]
                    refine s_iload C 176 dL_same_174 rfl rfl ?_
                    refine s_if_geN C 184 dL_same_176 (by decide) (by omega) ?_
                    refine s_iload C 186 dL_same_184 rfl rfl ?_
                    refine s_bipush C 188 (nI 100) dL_same_186 rfl (by decide) ?_
                    refine s_idivN C 189 dL_same_188 rfl (by omega) (by omega) (by omega) ?_
                    refine s_icmp_ne C 280 192 dL_same_189 (by decide) rfl (fun z189 => ?_) (fun z189 => ?_)
                    · skip
                      exact absurd e1y z189
                    · skip
                      refine s_aload_n C 193 dL_same_192 rfl rfl ?_
                      refine s_iload C 195 dL_same_193 rfl rfl ?_
                      refine s_iconst C 196 (nI 4) dL_same_195 rfl (by decide) ?_
                      refine s_invV C 199 0 0 [] (zR_rv hz) dL_same_196 rfl m_L_60 (z_of hz) rfl rfl rfl ⟨by decide, by decide⟩ (Nat.le_of_ble_eq_true rfl) (by omega) (by omega) ?_
                      rintro _ M57 ⟨rfl, hz, hF1⟩
                      dsimp only [Option.toList, List.cons_append, List.nil_append]
                      have hQ := hF1.at hQ (by decide)
                      have hA := hF1.at hA (by decide)
                      have hF := hF.tr (hF1.mono (by decide))
                      rw [of_v R1 R2 htT hT6 (show 4 < 7 by decide), show ofN (tS (al t)) (1 + cnB (tF (al t)) (tS (al t))) (Q (3 + t)) (kyN T mo (lLn al) (lFl al) t).1 (kyN T mo (lLn al) (lFl al) t).2 (shN T mo od (lLn al) (lFl al) (lUs Q) t).1 (shN T mo od (lLn al) (lFl al) (lUs Q) t).2 4 = (fdL (kyN T mo (lLn al) (lFl al) t)) from rfl]
                      refine s_iload C 201 dL_same_199 rfl rfl ?_
                      refine s_if_geN C 209 dL_same_201 (by decide) (by omega) ?_
                      refine s_iload C 211 dL_same_209 rfl rfl ?_
                      refine s_bipush C 213 (nI 100) dL_same_211 rfl (by decide) ?_
                      refine s_iremN C 214 dL_same_213 rfl (by omega) (by omega) (by omega) ?_
                      refine s_icmp_ne C 280 217 dL_same_214 (by decide) rfl (fun z214 => ?_) (fun z214 => ?_)
                      · skip
                        exact absurd e2y z214
                      · skip
                        refine s_aload_n C 218 dL_same_217 rfl rfl ?_
                        refine s_iload C 220 dL_same_218 rfl rfl ?_
                        refine s_iconst C 221 (nI 5) dL_same_220 rfl (by decide) ?_
                        refine s_invV C 224 0 0 [] (zR_rv hz) dL_same_221 rfl m_L_60 (z_of hz) rfl rfl rfl ⟨by decide, by decide⟩ (Nat.le_of_ble_eq_true rfl) (by omega) (by omega) ?_
                        rintro _ M58 ⟨rfl, hz, hF1⟩
                        dsimp only [Option.toList, List.cons_append, List.nil_append]
                        have hQ := hF1.at hQ (by decide)
                        have hA := hF1.at hA (by decide)
                        have hF := hF.tr (hF1.mono (by decide))
                        rw [of_v R1 R2 htT hT6 (show 5 < 7 by decide), show ofN (tS (al t)) (1 + cnB (tF (al t)) (tS (al t))) (Q (3 + t)) (kyN T mo (lLn al) (lFl al) t).1 (kyN T mo (lLn al) (lFl al) t).2 (shN T mo od (lLn al) (lFl al) (lUs Q) t).1 (shN T mo od (lLn al) (lFl al) (lUs Q) t).2 5 = (fdS (shN T mo od (lLn al) (lFl al) (lUs Q) t)) from rfl]
                        refine s_iload C 226 dL_same_224 rfl rfl ?_
                        refine s_if_ge C 234 229 dL_same_226 (by decide) rfl (fun z226 => ?_) (fun z226 => ?_)
                        · skip
                          exact absurd z226 (by decide)
                        · skip
                          refine s_iload C 231 dL_same_229 rfl rfl ?_
                          refine s_goto C 239 dL_same_231 (by decide) ?_
                          refine s_icmp_ne C 280 242 dL_same_239 (by decide) rfl (fun z239 => ?_) (fun z239 => ?_)
                          · skip
                            exact absurd e1s z239
                          · skip
                            refine s_aload_n C 243 dL_same_242 rfl rfl ?_
                            refine s_iload C 245 dL_same_243 rfl rfl ?_
                            refine s_bipush C 247 (nI 6) dL_same_245 rfl (by decide) ?_
                            refine s_invV C 250 0 0 [] (zR_rv hz) dL_same_247 rfl m_L_60 (z_of hz) rfl rfl rfl ⟨by decide, by decide⟩ (Nat.le_of_ble_eq_true rfl) (by omega) (by omega) ?_
                            rintro _ M59 ⟨rfl, hz, hF1⟩
                            dsimp only [Option.toList, List.cons_append, List.nil_append]
                            have hQ := hF1.at hQ (by decide)
                            have hA := hF1.at hA (by decide)
                            have hF := hF.tr (hF1.mono (by decide))
                            rw [of_v R1 R2 htT hT6 (show 6 < 7 by decide), show ofN (tS (al t)) (1 + cnB (tF (al t)) (tS (al t))) (Q (3 + t)) (kyN T mo (lLn al) (lFl al) t).1 (kyN T mo (lLn al) (lFl al) t).2 (shN T mo od (lLn al) (lFl al) (lUs Q) t).1 (shN T mo od (lLn al) (lFl al) (lUs Q) t).2 6 = (fdL (shN T mo od (lLn al) (lFl al) (lUs Q) t)) from rfl]
                            refine s_iload C 252 dL_same_250 rfl rfl ?_
                            refine s_if_ge C 260 255 dL_same_252 (by decide) rfl (fun z252 => ?_) (fun z252 => ?_)
                            · skip
                              exact absurd z252 (by decide)
                            · skip
                              refine s_iload C 257 dL_same_255 rfl rfl ?_
                              refine s_goto C 265 dL_same_257 (by decide) ?_
                              refine s_icmp_ne C 280 268 dL_same_265 (by decide) rfl (fun z265 => ?_) (fun z265 => ?_)
                              · skip
                                exact absurd e2s z265
                              · skip
                                refine s_aload_n C 269 dL_same_268 rfl rfl ?_
                                refine s_iload C 271 dL_same_269 rfl rfl ?_
                                refine s_iload C 273 dL_same_271 rfl rfl ?_
                                refine s_invV C 276 0 0 [] (zR_rv hz) dL_same_273 rfl m_L_52 (z_character hz) rfl rfl rfl ⟨by decide, by decide⟩ (Nat.le_of_ble_eq_true rfl) (by omega) (by omega) ?_
                                rintro _ M60 ⟨rfl, rfl⟩
                                dsimp only [Option.toList, List.cons_append, List.nil_append]
                                rw [ch_e R1 htT hT6]
                                refine s_iconst C 277 (-1) dL_same_276 rfl (by decide) ?_
                                refine s_icmp_eq C 282 280 dL_same_277 (by decide) rfl (fun z277 => ?_) (fun z277 => ?_)
                                · skip
                                  refine s_iload C 284 dL_same_282 rfl rfl ?_
                                  refine s_iload C 286 dL_same_284 rfl rfl ?_
                                  refine s_if_geN C 293 dL_same_286 (by decide) (by omega) ?_
                                  refine s_iconst C 294 (nI 0) dL_same_293 rfl (by decide) ?_
                                  refine s_iaddN C 295 dL_same_294 rfl ?_
                                  refine s_istore C 297 dL_same_295 rfl rfl rfl ?_
                                  dsimp only [List.set]
                                  refine s_iload C 299 dL_same_297 rfl rfl ?_
                                  refine s_if_ltN C 302 (t := 323) dL_same_299 (by decide) rfl (by omega) ?_
                                  refine s_iload C 304 dL_same_302 rfl rfl ?_
                                  refine s_bipush C 306 (nI 100) dL_same_304 rfl (by decide) ?_
                                  refine s_iremN C 307 dL_same_306 rfl (by omega) (by omega) (by omega) ?_
                                  refine s_iload C 309 dL_same_307 rfl rfl ?_
                                  refine s_icmp_leN C 323 312 dL_same_309 (by decide) rfl (by omega) (by omega) (fun z309 => ?_) (fun z309 => ?_)
                                  · skip
                                    have z309 := z309
                                    have hd9 := hdN_n (show ¬ (hdN T mo (lLn al) (lFl al) t).1 < (kyN T mo (lLn al) (lFl al) t).2 by omega)
                                    refine s_bipush C 325 (-6) dL_same_323 rfl (by decide) ?_
                                    refine s_istore C 327 dL_same_325 rfl rfl rfl ?_
                                    dsimp only [List.set]
                                    refine s_aload C 329 dL_same_327 rfl rfl ?_
                                    refine s_iconst C 330 (nI 0) dL_same_329 rfl (by decide) ?_
                                    refine s_iald C 331 dL_same_330 rfl hQ (by omega) (by omega) ?_
                                    rw [hQ0]
                                    refine s_iconst C 332 (nI 1) dL_same_331 rfl (by decide) ?_
                                    refine s_isubN C 333 dL_same_332 rfl (by omega) ?_
                                    refine s_istore C 335 dL_same_333 rfl rfl rfl ?_
                                    dsimp only [List.set]
                                    rw [← nI_dec (show 0 < T by omega)]
                                    suffices lp335 : ∀ (fu335 : Nat) (v : Nat) (o : Option Nat), v < fu335 → v ≤ T → nrI (cmR al t) t v T o → V X 0 0 335 [some (.ref z), some (.int x), some (.long (lN q)), none, some (.ref qa), some (.ref aa), some (.int (nI ((unN T mo (lLn al) (lFl al) t) + 0))), some (.int (oI (hdN T mo (lLn al) (lFl al) t).2)), some (.int (nI ((hdN T mo (lLn al) (lFl al) t).1))), some (.int (nI t)), some (.int (nI (tS (al t)))), some (.int (nI (1 + cnB (tF (al t)) (tS (al t))))), some (.int (nI (100 * (kyN T mo (lLn al) (lFl al) t).1 + (kyN T mo (lLn al) (lFl al) t).2))), some (.int (-6)), some (.int (oI o)), some (.int (nI v + Int32.ofInt (-1)))] [] M59 from lp335 (T + 1) T none (by omega) (Nat.le_refl _) (fun u h1 h2 => by omega)
                                    intro fu335
                                    induction fu335 with
                                    | zero => intro v o h; omega
                                    | succ fu335 ih335 =>
                                      intro v o hv0 hvT hn
                                      by_cases hv : 0 < v
                                      · skip
                                        rw [nI_dec hv]
                                        cases o with
                                        | none =>
                                          show V X 0 0 335 [some (.ref z), some (.int x), some (.long (lN q)), none, some (.ref qa), some (.ref aa), some (.int (nI ((unN T mo (lLn al) (lFl al) t) + 0))), some (.int (oI (hdN T mo (lLn al) (lFl al) t).2)), some (.int (nI ((hdN T mo (lLn al) (lFl al) t).1))), some (.int (nI t)), some (.int (nI (tS (al t)))), some (.int (nI (1 + cnB (tF (al t)) (tS (al t))))), some (.int (nI (100 * (kyN T mo (lLn al) (lFl al) t).1 + (kyN T mo (lLn al) (lFl al) t).2))), some (.int (-6)), some (.int (-6)), some (.int (nI (v - 1)))] [] M59
                                          refine s_iload C 337 dL_same_335 rfl rfl ?_
                                          refine s_if_ltN C 340 (t := 391) dL_same_337 (by decide) rfl (by omega) ?_
                                          refine s_iload C 342 dL_same_340 rfl rfl ?_
                                          refine s_iload C 344 dL_same_342 rfl rfl ?_
                                          refine s_icmp_eqN C 385 347 dL_same_344 (by decide) rfl (by omega) (by omega) (fun z344 => ?_) (fun z344 => ?_)
                                          · skip
                                            refine s_iinc C 388 (nI (v - 1) + Int32.ofInt (-1)) dL_same_385 rfl rfl rfl rfl ?_
                                            dsimp only [List.set]
                                            refine s_goto C 335 dL_same_388 (by decide) ?_
                                            exact ih335 (v - 1) none (by omega) (by omega) (nrI_t hv hn z344)
                                          · skip
                                            refine s_iload C 349 dL_same_347 rfl rfl ?_
                                            refine s_if_lt C 381 352 dL_same_349 (by decide) rfl (fun z349 => ?_) (fun z349 => ?_)
                                            · skip
                                              refine s_iload C 383 dL_same_381 rfl rfl ?_
                                              refine s_istore C 385 dL_same_383 rfl rfl rfl ?_
                                              dsimp only [List.set]
                                              refine s_iinc C 388 (nI (v - 1) + Int32.ofInt (-1)) dL_same_385 rfl rfl rfl rfl ?_
                                              dsimp only [List.set]
                                              refine s_goto C 335 dL_same_388 (by decide) ?_
                                              exact ih335 (v - 1) (some (v - 1)) (by omega) (by omega) (nrI_0 hv hvT hn z344)
                                            · skip
                                              exact absurd (by decide) z349
                                        | some b =>
                                          have hb0 := hn.2.1
                                          show V X 0 0 335 [some (.ref z), some (.int x), some (.long (lN q)), none, some (.ref qa), some (.ref aa), some (.int (nI ((unN T mo (lLn al) (lFl al) t) + 0))), some (.int (oI (hdN T mo (lLn al) (lFl al) t).2)), some (.int (nI ((hdN T mo (lLn al) (lFl al) t).1))), some (.int (nI t)), some (.int (nI (tS (al t)))), some (.int (nI (1 + cnB (tF (al t)) (tS (al t))))), some (.int (nI (100 * (kyN T mo (lLn al) (lFl al) t).1 + (kyN T mo (lLn al) (lFl al) t).2))), some (.int (-6)), some (.int (nI b)), some (.int (nI (v - 1)))] [] M59
                                          refine s_iload C 337 dL_same_335 rfl rfl ?_
                                          refine s_if_ltN C 340 (t := 391) dL_same_337 (by decide) rfl (by omega) ?_
                                          refine s_iload C 342 dL_same_340 rfl rfl ?_
                                          refine s_iload C 344 dL_same_342 rfl rfl ?_
                                          refine s_icmp_eqN C 385 347 dL_same_344 (by decide) rfl (by omega) (by omega) (fun z344 => ?_) (fun z344 => ?_)
                                          · skip
                                            refine s_iinc C 388 (nI (v - 1) + Int32.ofInt (-1)) dL_same_385 rfl rfl rfl rfl ?_
                                            dsimp only [List.set]
                                            refine s_goto C 335 dL_same_388 (by decide) ?_
                                            exact ih335 (v - 1) (some b) (by omega) (by omega) (nrI_t hv hn z344)
                                          · skip
                                            refine s_iload C 349 dL_same_347 rfl rfl ?_
                                            refine s_if_ltN C 352 (t := 381) dL_same_349 (by decide) rfl (by omega) ?_
                                            refine s_aload C 354 dL_same_352 rfl rfl ?_
                                            refine s_iload C 356 dL_same_354 rfl rfl ?_
                                            refine s_laldN C 357 dL_same_356 rfl hA (by omega) (by omega) ?_
                                            refine s_aload C 359 dL_same_357 rfl rfl ?_
                                            refine s_iload C 361 dL_same_359 rfl rfl ?_
                                            refine s_laldN C 362 dL_same_361 rfl hA (by omega) (by omega) ?_
                                            refine s_invS C 365 0 0 [] dL_same_362 rfl m_L_63 (l_common (hg t (by omega)) (hg (v - 1) (by omega))) rfl rfl rfl ⟨by decide, by decide⟩ (Nat.le_of_ble_eq_true rfl) (by omega) (by omega) ?_
                                            rintro _ M61 ⟨rfl, rfl⟩
                                            dsimp only [Option.toList, List.cons_append, List.nil_append]
                                            rw [show cmI (tF (al t)) (tF (al (v - 1))) (tS (al t)) (tS (al (v - 1))) (tS (al t)) = cmR al t (v - 1) from rfl]
                                            have hcm_62 := cmR_le (al := al) (t := t) (u := (v - 1))
                                            refine s_aload C 367 dL_same_365 rfl rfl ?_
                                            refine s_iload C 369 dL_same_367 rfl rfl ?_
                                            refine s_laldN C 370 dL_same_369 rfl hA (by omega) (by omega) ?_
                                            refine s_aload C 372 dL_same_370 rfl rfl ?_
                                            refine s_iload C 374 dL_same_372 rfl rfl ?_
                                            refine s_laldN C 375 dL_same_374 rfl hA (by omega) (by omega) ?_
                                            refine s_invS C 378 0 0 [.int (nI (cmR al t (v - 1)))] dL_same_375 rfl m_L_63 (l_common (hg t (by omega)) (hg b (by omega))) rfl rfl rfl ⟨by decide, by decide⟩ (Nat.le_of_ble_eq_true rfl) (by omega) (by omega) ?_
                                            rintro _ M63 ⟨rfl, rfl⟩
                                            dsimp only [Option.toList, List.cons_append, List.nil_append]
                                            rw [show cmI (tF (al t)) (tF (al b)) (tS (al t)) (tS (al b)) (tS (al t)) = cmR al t b from rfl]
                                            have hcm_64 := cmR_le (al := al) (t := t) (u := b)
                                            refine s_icmp_ltN C 385 381 dL_same_378 (by decide) rfl (by omega) (by omega) (fun z378 => ?_) (fun z378 => ?_)
                                            · skip
                                              refine s_iinc C 388 (nI (v - 1) + Int32.ofInt (-1)) dL_same_385 rfl rfl rfl rfl ?_
                                              dsimp only [List.set]
                                              refine s_goto C 335 dL_same_388 (by decide) ?_
                                              exact ih335 (v - 1) (some b) (by omega) (by omega) (nrI_n hv hn z378)
                                            · skip
                                              refine s_iload C 383 dL_same_381 rfl rfl ?_
                                              refine s_istore C 385 dL_same_383 rfl rfl rfl ?_
                                              dsimp only [List.set]
                                              refine s_iinc C 388 (nI (v - 1) + Int32.ofInt (-1)) dL_same_385 rfl rfl rfl rfl ?_
                                              dsimp only [List.set]
                                              refine s_goto C 335 dL_same_388 (by decide) ?_
                                              exact ih335 (v - 1) (some (v - 1)) (by omega) (by omega) (nrI_y hv hvT hn z344 z378)
                                      · skip
                                        have hv9 : v = 0 := by omega
                                        subst hv9
                                        have hnear : oI (clN (cmR al t) t T) = oI o := congrArg oI (nrI_un (nrI_cl T) hn)
                                        refine s_iload C 337 dL_same_335 rfl rfl ?_
                                        refine s_if_lt C 391 340 dL_same_337 (by decide) rfl (fun z337 => ?_) (fun z337 => ?_)
                                        · skip
                                          refine s_aload_n C 392 dL_same_391 rfl rfl ?_
                                          refine s_iload C 394 dL_same_392 rfl rfl ?_
                                          refine s_invV C 397 0 0 [] (zR_rv hz) dL_same_394 rfl m_L_67 (z_closest hz) rfl rfl rfl ⟨by decide, by decide⟩ (Nat.le_of_ble_eq_true rfl) (by omega) (by omega) ?_
                                          rintro _ M65 ⟨rfl, rfl⟩
                                          dsimp only [Option.toList, List.cons_append, List.nil_append]
                                          rw [cl_v R1 htT hT6]
                                          refine s_iload C 399 dL_same_397 rfl rfl ?_
                                          refine s_icmp_ne C 438 402 dL_same_399 (by decide) rfl (fun z399 => ?_) (fun z399 => ?_)
                                          · skip
                                            exact absurd hnear z399
                                          · skip
                                            refine s_aload_n C 403 dL_same_402 rfl rfl ?_
                                            refine s_iload C 405 dL_same_403 rfl rfl ?_
                                            refine s_iload_n C 406 dL_same_405 rfl rfl ?_
                                            refine s_aload C 408 dL_same_406 rfl rfl ?_
                                            refine s_iconst C 409 (nI 0) dL_same_408 rfl (by decide) ?_
                                            refine s_iald C 410 dL_same_409 rfl hQ (by omega) (by omega) ?_
                                            rw [hQ0]
                                            have hlw := lw_lt (v := x) (m := T) (by omega)
                                            refine s_invS C 413 0 0 [.int (nI t), .ref z] dL_same_410 rfl m_L_70 (l_low (v := x) (m := T) (by omega) (by omega)) rfl rfl rfl ⟨by decide, by decide⟩ (Nat.le_of_ble_eq_true rfl) (by omega) (by omega) ?_
                                            rintro _ M66 ⟨rfl, rfl⟩
                                            dsimp only [Option.toList, List.cons_append, List.nil_append]
                                            have hcm0 := cmR_le (al := al) (t := t) (u := lw x T)
                                            refine s_invV C 416 0 0 [] (zR_rv hz) dL_same_413 rfl m_L_73 (z_common hz) rfl rfl rfl ⟨by decide, by decide⟩ (Nat.le_of_ble_eq_true rfl) (by omega) (by omega) ?_
                                            rintro _ M67 ⟨rfl, rfl⟩
                                            dsimp only [Option.toList, List.cons_append, List.nil_append]
                                            rw [cm_v R1 htT hlw hT6]
                                            refine s_aload C 418 dL_same_416 rfl rfl ?_
                                            refine s_iload C 420 dL_same_418 rfl rfl ?_
                                            refine s_laldN C 421 dL_same_420 rfl hA (by omega) (by omega) ?_
                                            refine s_aload C 423 dL_same_421 rfl rfl ?_
                                            refine s_iload_n C 424 dL_same_423 rfl rfl ?_
                                            refine s_aload C 426 dL_same_424 rfl rfl ?_
                                            refine s_iconst C 427 (nI 0) dL_same_426 rfl (by decide) ?_
                                            refine s_iald C 428 dL_same_427 rfl hQ (by omega) (by omega) ?_
                                            rw [hQ0]
                                            have hlw := lw_lt (v := x) (m := T) (by omega)
                                            refine s_invS C 431 0 0 [.ref aa, .long (lN (al t)), .int (nI (cmR al t (lw x T)))] dL_same_428 rfl m_L_70 (l_low (v := x) (m := T) (by omega) (by omega)) rfl rfl rfl ⟨by decide, by decide⟩ (Nat.le_of_ble_eq_true rfl) (by omega) (by omega) ?_
                                            rintro _ M68 ⟨rfl, rfl⟩
                                            dsimp only [Option.toList, List.cons_append, List.nil_append]
                                            refine s_laldN C 432 dL_same_431 rfl hA (by omega) (by omega) ?_
                                            refine s_invS C 435 0 0 [.int (nI (cmR al t (lw x T)))] dL_same_432 rfl m_L_63 (l_common (hg t (by omega)) (hg (lw x T) (by omega))) rfl rfl rfl ⟨by decide, by decide⟩ (Nat.le_of_ble_eq_true rfl) (by omega) (by omega) ?_
                                            rintro _ M69 ⟨rfl, rfl⟩
                                            dsimp only [Option.toList, List.cons_append, List.nil_append]
                                            rw [show cmI (tF (al t)) (tF (al (lw x T))) (tS (al t)) (tS (al (lw x T))) (tS (al t)) = cmR al t (lw x T) from rfl]
                                            have hcm_70 := cmR_le (al := al) (t := t) (u := (lw x T))
                                            refine s_icmp_eqN C 440 438 dL_same_435 (by decide) rfl (by omega) (by omega) (fun z435 => ?_) (fun z435 => ?_)
                                            · skip
                                              refine s_iinc C 443 (nI (t + 1)) dL_same_440 rfl rfl (by rw [← nI_add]; rfl) rfl ?_
                                              dsimp only [List.set]
                                              refine s_goto C 13 dL_same_443 (by decide) ?_
                                              refine V.drop 10 ?_
                                              dsimp only [List.set]
                                              refine V.drop 11 ?_
                                              dsimp only [List.set]
                                              refine V.drop 12 ?_
                                              dsimp only [List.set]
                                              refine V.drop 13 ?_
                                              dsimp only [List.set]
                                              refine V.drop 14 ?_
                                              dsimp only [List.set]
                                              refine V.drop 15 ?_
                                              dsimp only [List.set]
                                              have i9 := ih13 (t + 1) _ (by omega) (by omega) hz hQ hA hF
                                              rw [un9, hd9] at i9
                                              exact i9
                                            · skip
                                              exact absurd rfl z435
                                        · skip
                                          exact absurd (by decide) z337
                                  · skip
                                    have hd9 := hdN_y (show (hdN T mo (lLn al) (lFl al) t).1 < (kyN T mo (lLn al) (lFl al) t).2 by omega)
                                    refine s_iload C 314 dL_same_312 rfl rfl ?_
                                    refine s_bipush C 316 (nI 100) dL_same_314 rfl (by decide) ?_
                                    refine s_iremN C 317 dL_same_316 rfl (by omega) (by omega) (by omega) ?_
                                    refine s_istore C 319 dL_same_317 rfl rfl rfl ?_
                                    dsimp only [List.set]
                                    refine s_iload C 321 dL_same_319 rfl rfl ?_
                                    refine s_istore C 323 dL_same_321 rfl rfl rfl ?_
                                    dsimp only [List.set]
                                    rw [e3y]
                                    refine s_bipush C 325 (-6) dL_same_323 rfl (by decide) ?_
                                    refine s_istore C 327 dL_same_325 rfl rfl rfl ?_
                                    dsimp only [List.set]
                                    refine s_aload C 329 dL_same_327 rfl rfl ?_
                                    refine s_iconst C 330 (nI 0) dL_same_329 rfl (by decide) ?_
                                    refine s_iald C 331 dL_same_330 rfl hQ (by omega) (by omega) ?_
                                    rw [hQ0]
                                    refine s_iconst C 332 (nI 1) dL_same_331 rfl (by decide) ?_
                                    refine s_isubN C 333 dL_same_332 rfl (by omega) ?_
                                    refine s_istore C 335 dL_same_333 rfl rfl rfl ?_
                                    dsimp only [List.set]
                                    rw [← nI_dec (show 0 < T by omega)]
                                    suffices lp335 : ∀ (fu335 : Nat) (v : Nat) (o : Option Nat), v < fu335 → v ≤ T → nrI (cmR al t) t v T o → V X 0 0 335 [some (.ref z), some (.int x), some (.long (lN q)), none, some (.ref qa), some (.ref aa), some (.int (nI ((unN T mo (lLn al) (lFl al) t) + 0))), some (.int (oI (some t))), some (.int (nI ((kyN T mo (lLn al) (lFl al) t).2))), some (.int (nI t)), some (.int (nI (tS (al t)))), some (.int (nI (1 + cnB (tF (al t)) (tS (al t))))), some (.int (nI (100 * (kyN T mo (lLn al) (lFl al) t).1 + (kyN T mo (lLn al) (lFl al) t).2))), some (.int (-6)), some (.int (oI o)), some (.int (nI v + Int32.ofInt (-1)))] [] M59 from lp335 (T + 1) T none (by omega) (Nat.le_refl _) (fun u h1 h2 => by omega)
                                    intro fu335
                                    induction fu335 with
                                    | zero => intro v o h; omega
                                    | succ fu335 ih335 =>
                                      intro v o hv0 hvT hn
                                      by_cases hv : 0 < v
                                      · skip
                                        rw [nI_dec hv]
                                        cases o with
                                        | none =>
                                          show V X 0 0 335 [some (.ref z), some (.int x), some (.long (lN q)), none, some (.ref qa), some (.ref aa), some (.int (nI ((unN T mo (lLn al) (lFl al) t) + 0))), some (.int (oI (some t))), some (.int (nI ((kyN T mo (lLn al) (lFl al) t).2))), some (.int (nI t)), some (.int (nI (tS (al t)))), some (.int (nI (1 + cnB (tF (al t)) (tS (al t))))), some (.int (nI (100 * (kyN T mo (lLn al) (lFl al) t).1 + (kyN T mo (lLn al) (lFl al) t).2))), some (.int (-6)), some (.int (-6)), some (.int (nI (v - 1)))] [] M59
                                          refine s_iload C 337 dL_same_335 rfl rfl ?_
                                          refine s_if_ltN C 340 (t := 391) dL_same_337 (by decide) rfl (by omega) ?_
                                          refine s_iload C 342 dL_same_340 rfl rfl ?_
                                          refine s_iload C 344 dL_same_342 rfl rfl ?_
                                          refine s_icmp_eqN C 385 347 dL_same_344 (by decide) rfl (by omega) (by omega) (fun z344 => ?_) (fun z344 => ?_)
                                          · skip
                                            refine s_iinc C 388 (nI (v - 1) + Int32.ofInt (-1)) dL_same_385 rfl rfl rfl rfl ?_
                                            dsimp only [List.set]
                                            refine s_goto C 335 dL_same_388 (by decide) ?_
                                            exact ih335 (v - 1) none (by omega) (by omega) (nrI_t hv hn z344)
                                          · skip
                                            refine s_iload C 349 dL_same_347 rfl rfl ?_
                                            refine s_if_lt C 381 352 dL_same_349 (by decide) rfl (fun z349 => ?_) (fun z349 => ?_)
                                            · skip
                                              refine s_iload C 383 dL_same_381 rfl rfl ?_
                                              refine s_istore C 385 dL_same_383 rfl rfl rfl ?_
                                              dsimp only [List.set]
                                              refine s_iinc C 388 (nI (v - 1) + Int32.ofInt (-1)) dL_same_385 rfl rfl rfl rfl ?_
                                              dsimp only [List.set]
                                              refine s_goto C 335 dL_same_388 (by decide) ?_
                                              exact ih335 (v - 1) (some (v - 1)) (by omega) (by omega) (nrI_0 hv hvT hn z344)
                                            · skip
                                              exact absurd (by decide) z349
                                        | some b =>
                                          have hb0 := hn.2.1
                                          show V X 0 0 335 [some (.ref z), some (.int x), some (.long (lN q)), none, some (.ref qa), some (.ref aa), some (.int (nI ((unN T mo (lLn al) (lFl al) t) + 0))), some (.int (oI (some t))), some (.int (nI ((kyN T mo (lLn al) (lFl al) t).2))), some (.int (nI t)), some (.int (nI (tS (al t)))), some (.int (nI (1 + cnB (tF (al t)) (tS (al t))))), some (.int (nI (100 * (kyN T mo (lLn al) (lFl al) t).1 + (kyN T mo (lLn al) (lFl al) t).2))), some (.int (-6)), some (.int (nI b)), some (.int (nI (v - 1)))] [] M59
                                          refine s_iload C 337 dL_same_335 rfl rfl ?_
                                          refine s_if_ltN C 340 (t := 391) dL_same_337 (by decide) rfl (by omega) ?_
                                          refine s_iload C 342 dL_same_340 rfl rfl ?_
                                          refine s_iload C 344 dL_same_342 rfl rfl ?_
                                          refine s_icmp_eqN C 385 347 dL_same_344 (by decide) rfl (by omega) (by omega) (fun z344 => ?_) (fun z344 => ?_)
                                          · skip
                                            refine s_iinc C 388 (nI (v - 1) + Int32.ofInt (-1)) dL_same_385 rfl rfl rfl rfl ?_
                                            dsimp only [List.set]
                                            refine s_goto C 335 dL_same_388 (by decide) ?_
                                            exact ih335 (v - 1) (some b) (by omega) (by omega) (nrI_t hv hn z344)
                                          · skip
                                            refine s_iload C 349 dL_same_347 rfl rfl ?_
                                            refine s_if_ltN C 352 (t := 381) dL_same_349 (by decide) rfl (by omega) ?_
                                            refine s_aload C 354 dL_same_352 rfl rfl ?_
                                            refine s_iload C 356 dL_same_354 rfl rfl ?_
                                            refine s_laldN C 357 dL_same_356 rfl hA (by omega) (by omega) ?_
                                            refine s_aload C 359 dL_same_357 rfl rfl ?_
                                            refine s_iload C 361 dL_same_359 rfl rfl ?_
                                            refine s_laldN C 362 dL_same_361 rfl hA (by omega) (by omega) ?_
                                            refine s_invS C 365 0 0 [] dL_same_362 rfl m_L_63 (l_common (hg t (by omega)) (hg (v - 1) (by omega))) rfl rfl rfl ⟨by decide, by decide⟩ (Nat.le_of_ble_eq_true rfl) (by omega) (by omega) ?_
                                            rintro _ M71 ⟨rfl, rfl⟩
                                            dsimp only [Option.toList, List.cons_append, List.nil_append]
                                            rw [show cmI (tF (al t)) (tF (al (v - 1))) (tS (al t)) (tS (al (v - 1))) (tS (al t)) = cmR al t (v - 1) from rfl]
                                            have hcm_72 := cmR_le (al := al) (t := t) (u := (v - 1))
                                            refine s_aload C 367 dL_same_365 rfl rfl ?_
                                            refine s_iload C 369 dL_same_367 rfl rfl ?_
                                            refine s_laldN C 370 dL_same_369 rfl hA (by omega) (by omega) ?_
                                            refine s_aload C 372 dL_same_370 rfl rfl ?_
                                            refine s_iload C 374 dL_same_372 rfl rfl ?_
                                            refine s_laldN C 375 dL_same_374 rfl hA (by omega) (by omega) ?_
                                            refine s_invS C 378 0 0 [.int (nI (cmR al t (v - 1)))] dL_same_375 rfl m_L_63 (l_common (hg t (by omega)) (hg b (by omega))) rfl rfl rfl ⟨by decide, by decide⟩ (Nat.le_of_ble_eq_true rfl) (by omega) (by omega) ?_
                                            rintro _ M73 ⟨rfl, rfl⟩
                                            dsimp only [Option.toList, List.cons_append, List.nil_append]
                                            rw [show cmI (tF (al t)) (tF (al b)) (tS (al t)) (tS (al b)) (tS (al t)) = cmR al t b from rfl]
                                            have hcm_74 := cmR_le (al := al) (t := t) (u := b)
                                            refine s_icmp_ltN C 385 381 dL_same_378 (by decide) rfl (by omega) (by omega) (fun z378 => ?_) (fun z378 => ?_)
                                            · skip
                                              refine s_iinc C 388 (nI (v - 1) + Int32.ofInt (-1)) dL_same_385 rfl rfl rfl rfl ?_
                                              dsimp only [List.set]
                                              refine s_goto C 335 dL_same_388 (by decide) ?_
                                              exact ih335 (v - 1) (some b) (by omega) (by omega) (nrI_n hv hn z378)
                                            · skip
                                              refine s_iload C 383 dL_same_381 rfl rfl ?_
                                              refine s_istore C 385 dL_same_383 rfl rfl rfl ?_
                                              dsimp only [List.set]
                                              refine s_iinc C 388 (nI (v - 1) + Int32.ofInt (-1)) dL_same_385 rfl rfl rfl rfl ?_
                                              dsimp only [List.set]
                                              refine s_goto C 335 dL_same_388 (by decide) ?_
                                              exact ih335 (v - 1) (some (v - 1)) (by omega) (by omega) (nrI_y hv hvT hn z344 z378)
                                      · skip
                                        have hv9 : v = 0 := by omega
                                        subst hv9
                                        have hnear : oI (clN (cmR al t) t T) = oI o := congrArg oI (nrI_un (nrI_cl T) hn)
                                        refine s_iload C 337 dL_same_335 rfl rfl ?_
                                        refine s_if_lt C 391 340 dL_same_337 (by decide) rfl (fun z337 => ?_) (fun z337 => ?_)
                                        · skip
                                          refine s_aload_n C 392 dL_same_391 rfl rfl ?_
                                          refine s_iload C 394 dL_same_392 rfl rfl ?_
                                          refine s_invV C 397 0 0 [] (zR_rv hz) dL_same_394 rfl m_L_67 (z_closest hz) rfl rfl rfl ⟨by decide, by decide⟩ (Nat.le_of_ble_eq_true rfl) (by omega) (by omega) ?_
                                          rintro _ M75 ⟨rfl, rfl⟩
                                          dsimp only [Option.toList, List.cons_append, List.nil_append]
                                          rw [cl_v R1 htT hT6]
                                          refine s_iload C 399 dL_same_397 rfl rfl ?_
                                          refine s_icmp_ne C 438 402 dL_same_399 (by decide) rfl (fun z399 => ?_) (fun z399 => ?_)
                                          · skip
                                            exact absurd hnear z399
                                          · skip
                                            refine s_aload_n C 403 dL_same_402 rfl rfl ?_
                                            refine s_iload C 405 dL_same_403 rfl rfl ?_
                                            refine s_iload_n C 406 dL_same_405 rfl rfl ?_
                                            refine s_aload C 408 dL_same_406 rfl rfl ?_
                                            refine s_iconst C 409 (nI 0) dL_same_408 rfl (by decide) ?_
                                            refine s_iald C 410 dL_same_409 rfl hQ (by omega) (by omega) ?_
                                            rw [hQ0]
                                            have hlw := lw_lt (v := x) (m := T) (by omega)
                                            refine s_invS C 413 0 0 [.int (nI t), .ref z] dL_same_410 rfl m_L_70 (l_low (v := x) (m := T) (by omega) (by omega)) rfl rfl rfl ⟨by decide, by decide⟩ (Nat.le_of_ble_eq_true rfl) (by omega) (by omega) ?_
                                            rintro _ M76 ⟨rfl, rfl⟩
                                            dsimp only [Option.toList, List.cons_append, List.nil_append]
                                            have hcm0 := cmR_le (al := al) (t := t) (u := lw x T)
                                            refine s_invV C 416 0 0 [] (zR_rv hz) dL_same_413 rfl m_L_73 (z_common hz) rfl rfl rfl ⟨by decide, by decide⟩ (Nat.le_of_ble_eq_true rfl) (by omega) (by omega) ?_
                                            rintro _ M77 ⟨rfl, rfl⟩
                                            dsimp only [Option.toList, List.cons_append, List.nil_append]
                                            rw [cm_v R1 htT hlw hT6]
                                            refine s_aload C 418 dL_same_416 rfl rfl ?_
                                            refine s_iload C 420 dL_same_418 rfl rfl ?_
                                            refine s_laldN C 421 dL_same_420 rfl hA (by omega) (by omega) ?_
                                            refine s_aload C 423 dL_same_421 rfl rfl ?_
                                            refine s_iload_n C 424 dL_same_423 rfl rfl ?_
                                            refine s_aload C 426 dL_same_424 rfl rfl ?_
                                            refine s_iconst C 427 (nI 0) dL_same_426 rfl (by decide) ?_
                                            refine s_iald C 428 dL_same_427 rfl hQ (by omega) (by omega) ?_
                                            rw [hQ0]
                                            have hlw := lw_lt (v := x) (m := T) (by omega)
                                            refine s_invS C 431 0 0 [.ref aa, .long (lN (al t)), .int (nI (cmR al t (lw x T)))] dL_same_428 rfl m_L_70 (l_low (v := x) (m := T) (by omega) (by omega)) rfl rfl rfl ⟨by decide, by decide⟩ (Nat.le_of_ble_eq_true rfl) (by omega) (by omega) ?_
                                            rintro _ M78 ⟨rfl, rfl⟩
                                            dsimp only [Option.toList, List.cons_append, List.nil_append]
                                            refine s_laldN C 432 dL_same_431 rfl hA (by omega) (by omega) ?_
                                            refine s_invS C 435 0 0 [.int (nI (cmR al t (lw x T)))] dL_same_432 rfl m_L_63 (l_common (hg t (by omega)) (hg (lw x T) (by omega))) rfl rfl rfl ⟨by decide, by decide⟩ (Nat.le_of_ble_eq_true rfl) (by omega) (by omega) ?_
                                            rintro _ M79 ⟨rfl, rfl⟩
                                            dsimp only [Option.toList, List.cons_append, List.nil_append]
                                            rw [show cmI (tF (al t)) (tF (al (lw x T))) (tS (al t)) (tS (al (lw x T))) (tS (al t)) = cmR al t (lw x T) from rfl]
                                            have hcm_80 := cmR_le (al := al) (t := t) (u := (lw x T))
                                            refine s_icmp_eqN C 440 438 dL_same_435 (by decide) rfl (by omega) (by omega) (fun z435 => ?_) (fun z435 => ?_)
                                            · skip
                                              refine s_iinc C 443 (nI (t + 1)) dL_same_440 rfl rfl (by rw [← nI_add]; rfl) rfl ?_
                                              dsimp only [List.set]
                                              refine s_goto C 13 dL_same_443 (by decide) ?_
                                              refine V.drop 10 ?_
                                              dsimp only [List.set]
                                              refine V.drop 11 ?_
                                              dsimp only [List.set]
                                              refine V.drop 12 ?_
                                              dsimp only [List.set]
                                              refine V.drop 13 ?_
                                              dsimp only [List.set]
                                              refine V.drop 14 ?_
                                              dsimp only [List.set]
                                              refine V.drop 15 ?_
                                              dsimp only [List.set]
                                              have i9 := ih13 (t + 1) _ (by omega) (by omega) hz hQ hA hF
                                              rw [un9, hd9] at i9
                                              exact i9
                                            · skip
                                              exact absurd rfl z435
                                        · skip
                                          exact absurd (by decide) z337
                                · skip
                                  exact absurd rfl z277
          · skip
            obtain ⟨e0y, e1y, e2y⟩ := kS_n hy
            rw [e0y]
            have un9 := unN_n hy
            have hd9 := hdN_n (show ¬ (hdN T mo (lLn al) (lFl al) t).1 < (kyN T mo (lLn al) (lFl al) t).2 by omega)
            refine s_iload C 116 dL_same_114 rfl rfl ?_
            refine s_iconst C 117 (nI 0) dL_same_116 rfl (by decide) ?_
            refine s_aload C 119 dL_same_117 rfl rfl ?_
            refine s_aload C 121 dL_same_119 rfl rfl ?_
            refine s_invS C 124 0 0 [] dL_same_121 rfl m_L_56 (l_bestS hQ hA hQ1 hQ2 hm ho hQ0 hT6 hg hne hok (t := t) htT) rfl rfl rfl ⟨by decide, by decide⟩ (Nat.le_of_ble_eq_true rfl) (by omega) (by omega) ?_
            rintro _ M81 ⟨rfl, rfl⟩
            dsimp only [Option.toList, List.cons_append, List.nil_append]
            rw [show bst (pSb T mo od (lLn al) (lFl al) (lUs Q) t) = (shN T mo od (lLn al) (lFl al) (lUs Q) t) from rfl]
            refine s_istore C 126 dL_same_124 rfl rfl rfl ?_
            dsimp only [List.set]
            have h25s := shN_25 (T := T) (mo := mo) (od := od) (ln := (lLn al)) (fl := (lFl al)) (us := (lUs Q)) (t := t)
            by_cases hs : 0 < (shN T mo od (lLn al) (lFl al) (lUs Q) t).2
            · skip
              obtain ⟨e0s, e1s, e2s, e3s⟩ := kS_p hs h25s
              rw [e0s]
              refine s_aload_n C 127 dL_same_126 rfl rfl ?_
              refine s_iload C 129 dL_same_127 rfl rfl ?_
              refine s_iconst C 130 (nI 0) dL_same_129 rfl (by decide) ?_
              refine s_invV C 133 0 0 [] (zR_rv hz) dL_same_130 rfl m_L_60 (z_of hz) rfl rfl rfl ⟨by decide, by decide⟩ (Nat.le_of_ble_eq_true rfl) (by omega) (by omega) ?_
              rintro _ M82 ⟨rfl, hz, hF1⟩
              dsimp only [Option.toList, List.cons_append, List.nil_append]
              have hQ := hF1.at hQ (by decide)
              have hA := hF1.at hA (by decide)
              have hF := hF.tr (hF1.mono (by decide))
              rw [of_v R1 R2 htT hT6 (show 0 < 7 by decide), show ofN (tS (al t)) (1 + cnB (tF (al t)) (tS (al t))) (Q (3 + t)) (kyN T mo (lLn al) (lFl al) t).1 (kyN T mo (lLn al) (lFl al) t).2 (shN T mo od (lLn al) (lFl al) (lUs Q) t).1 (shN T mo od (lLn al) (lFl al) (lUs Q) t).2 0 = (nI (tS (al t))) from rfl]
              refine s_iload C 135 dL_same_133 rfl rfl ?_
              refine s_icmp_neN C 280 138 dL_same_135 (by decide) rfl (by omega) (by omega) (fun z135 => ?_) (fun z135 => ?_)
              · skip
                exact absurd rfl z135
              · skip
                refine s_aload_n C 139 dL_same_138 rfl rfl ?_
                refine s_iload C 141 dL_same_139 rfl rfl ?_
                refine s_iconst C 142 (nI 1) dL_same_141 rfl (by decide) ?_
                refine s_invV C 145 0 0 [] (zR_rv hz) dL_same_142 rfl m_L_60 (z_of hz) rfl rfl rfl ⟨by decide, by decide⟩ (Nat.le_of_ble_eq_true rfl) (by omega) (by omega) ?_
                rintro _ M83 ⟨rfl, hz, hF1⟩
                dsimp only [Option.toList, List.cons_append, List.nil_append]
                have hQ := hF1.at hQ (by decide)
                have hA := hF1.at hA (by decide)
                have hF := hF.tr (hF1.mono (by decide))
                rw [of_v R1 R2 htT hT6 (show 1 < 7 by decide), show ofN (tS (al t)) (1 + cnB (tF (al t)) (tS (al t))) (Q (3 + t)) (kyN T mo (lLn al) (lFl al) t).1 (kyN T mo (lLn al) (lFl al) t).2 (shN T mo od (lLn al) (lFl al) (lUs Q) t).1 (shN T mo od (lLn al) (lFl al) (lUs Q) t).2 1 = (nI (1 + cnB (tF (al t)) (tS (al t)))) from rfl]
                refine s_iload C 147 dL_same_145 rfl rfl ?_
                refine s_icmp_neN C 280 150 dL_same_147 (by decide) rfl (by omega) (by omega) (fun z147 => ?_) (fun z147 => ?_)
                · skip
                  exact absurd rfl z147
                · skip
                  refine s_aload_n C 151 dL_same_150 rfl rfl ?_
                  refine s_iload C 153 dL_same_151 rfl rfl ?_
                  refine s_iconst C 154 (nI 2) dL_same_153 rfl (by decide) ?_
                  refine s_invV C 157 0 0 [] (zR_rv hz) dL_same_154 rfl m_L_60 (z_of hz) rfl rfl rfl ⟨by decide, by decide⟩ (Nat.le_of_ble_eq_true rfl) (by omega) (by omega) ?_
                  rintro _ M84 ⟨rfl, hz, hF1⟩
                  dsimp only [Option.toList, List.cons_append, List.nil_append]
                  have hQ := hF1.at hQ (by decide)
                  have hA := hF1.at hA (by decide)
                  have hF := hF.tr (hF1.mono (by decide))
                  rw [of_v R1 R2 htT hT6 (show 2 < 7 by decide), show ofN (tS (al t)) (1 + cnB (tF (al t)) (tS (al t))) (Q (3 + t)) (kyN T mo (lLn al) (lFl al) t).1 (kyN T mo (lLn al) (lFl al) t).2 (shN T mo od (lLn al) (lFl al) (lUs Q) t).1 (shN T mo od (lLn al) (lFl al) (lUs Q) t).2 2 = (Q (3 + t)) from rfl]
                  refine s_aload C 159 dL_same_157 rfl rfl ?_
                  refine s_iconst C 160 (nI 3) dL_same_159 rfl (by decide) ?_
                  refine s_iload C 162 dL_same_160 rfl rfl ?_
                  refine s_iaddN C 163 dL_same_162 rfl ?_
                  refine s_iald C 164 dL_same_163 rfl hQ (by omega) (by omega) ?_
                  refine s_icmp_ne C 280 167 dL_same_164 (by decide) rfl (fun z164 => ?_) (fun z164 => ?_)
                  · skip
                    exact absurd rfl z164
                  · skip
                    refine s_aload_n C 168 dL_same_167 rfl rfl ?_
                    refine s_iload C 170 dL_same_168 rfl rfl ?_
                    refine s_iconst C 171 (nI 3) dL_same_170 rfl (by decide) ?_
                    refine s_invV C 174 0 0 [] (zR_rv hz) dL_same_171 rfl m_L_60 (z_of hz) rfl rfl rfl ⟨by decide, by decide⟩ (Nat.le_of_ble_eq_true rfl) (by omega) (by omega) ?_
                    rintro _ M85 ⟨rfl, hz, hF1⟩
                    dsimp only [Option.toList, List.cons_append, List.nil_append]
                    have hQ := hF1.at hQ (by decide)
                    have hA := hF1.at hA (by decide)
                    have hF := hF.tr (hF1.mono (by decide))
                    rw [of_v R1 R2 htT hT6 (show 3 < 7 by decide), show ofN (tS (al t)) (1 + cnB (tF (al t)) (tS (al t))) (Q (3 + t)) (kyN T mo (lLn al) (lFl al) t).1 (kyN T mo (lLn al) (lFl al) t).2 (shN T mo od (lLn al) (lFl al) (lUs Q) t).1 (shN T mo od (lLn al) (lFl al) (lUs Q) t).2 3 = (fdS (kyN T mo (lLn al) (lFl al) t)) from rfl]
                    refine s_iload C 176 dL_same_174 rfl rfl ?_
                    refine s_if_ge C 184 179 dL_same_176 (by decide) rfl (fun z176 => ?_) (fun z176 => ?_)
                    · skip
                      exact absurd z176 (by decide)
                    · skip
                      refine s_iload C 181 dL_same_179 rfl rfl ?_
                      refine s_goto C 189 dL_same_181 (by decide) ?_
                      refine s_icmp_ne C 280 192 dL_same_189 (by decide) rfl (fun z189 => ?_) (fun z189 => ?_)
                      · skip
                        exact absurd e1y z189
                      · skip
                        refine s_aload_n C 193 dL_same_192 rfl rfl ?_
                        refine s_iload C 195 dL_same_193 rfl rfl ?_
                        refine s_iconst C 196 (nI 4) dL_same_195 rfl (by decide) ?_
                        refine s_invV C 199 0 0 [] (zR_rv hz) dL_same_196 rfl m_L_60 (z_of hz) rfl rfl rfl ⟨by decide, by decide⟩ (Nat.le_of_ble_eq_true rfl) (by omega) (by omega) ?_
                        rintro _ M86 ⟨rfl, hz, hF1⟩
                        dsimp only [Option.toList, List.cons_append, List.nil_append]
                        have hQ := hF1.at hQ (by decide)
                        have hA := hF1.at hA (by decide)
                        have hF := hF.tr (hF1.mono (by decide))
                        rw [of_v R1 R2 htT hT6 (show 4 < 7 by decide), show ofN (tS (al t)) (1 + cnB (tF (al t)) (tS (al t))) (Q (3 + t)) (kyN T mo (lLn al) (lFl al) t).1 (kyN T mo (lLn al) (lFl al) t).2 (shN T mo od (lLn al) (lFl al) (lUs Q) t).1 (shN T mo od (lLn al) (lFl al) (lUs Q) t).2 4 = (fdL (kyN T mo (lLn al) (lFl al) t)) from rfl]
                        refine s_iload C 201 dL_same_199 rfl rfl ?_
                        refine s_if_ge C 209 204 dL_same_201 (by decide) rfl (fun z201 => ?_) (fun z201 => ?_)
                        · skip
                          exact absurd z201 (by decide)
                        · skip
                          refine s_iload C 206 dL_same_204 rfl rfl ?_
                          refine s_goto C 214 dL_same_206 (by decide) ?_
                          refine s_icmp_ne C 280 217 dL_same_214 (by decide) rfl (fun z214 => ?_) (fun z214 => ?_)
                          · skip
                            exact absurd e2y z214
                          · skip
                            refine s_aload_n C 218 dL_same_217 rfl rfl ?_
                            refine s_iload C 220 dL_same_218 rfl rfl ?_
                            refine s_iconst C 221 (nI 5) dL_same_220 rfl (by decide) ?_
                            refine s_invV C 224 0 0 [] (zR_rv hz) dL_same_221 rfl m_L_60 (z_of hz) rfl rfl rfl ⟨by decide, by decide⟩ (Nat.le_of_ble_eq_true rfl) (by omega) (by omega) ?_
                            rintro _ M87 ⟨rfl, hz, hF1⟩
                            dsimp only [Option.toList, List.cons_append, List.nil_append]
                            have hQ := hF1.at hQ (by decide)
                            have hA := hF1.at hA (by decide)
                            have hF := hF.tr (hF1.mono (by decide))
                            rw [of_v R1 R2 htT hT6 (show 5 < 7 by decide), show ofN (tS (al t)) (1 + cnB (tF (al t)) (tS (al t))) (Q (3 + t)) (kyN T mo (lLn al) (lFl al) t).1 (kyN T mo (lLn al) (lFl al) t).2 (shN T mo od (lLn al) (lFl al) (lUs Q) t).1 (shN T mo od (lLn al) (lFl al) (lUs Q) t).2 5 = (fdS (shN T mo od (lLn al) (lFl al) (lUs Q) t)) from rfl]
                            refine s_iload C 226 dL_same_224 rfl rfl ?_
                            refine s_if_geN C 234 dL_same_226 (by decide) (by omega) ?_
                            refine s_iload C 236 dL_same_234 rfl rfl ?_
                            refine s_bipush C 238 (nI 100) dL_same_236 rfl (by decide) ?_
                            refine s_idivN C 239 dL_same_238 rfl (by omega) (by omega) (by omega) ?_
                            refine s_icmp_ne C 280 242 dL_same_239 (by decide) rfl (fun z239 => ?_) (fun z239 => ?_)
                            · skip
                              exact absurd e1s z239
                            · skip
                              refine s_aload_n C 243 dL_same_242 rfl rfl ?_
                              refine s_iload C 245 dL_same_243 rfl rfl ?_
                              refine s_bipush C 247 (nI 6) dL_same_245 rfl (by decide) ?_
                              refine s_invV C 250 0 0 [] (zR_rv hz) dL_same_247 rfl m_L_60 (z_of hz) rfl rfl rfl ⟨by decide, by decide⟩ (Nat.le_of_ble_eq_true rfl) (by omega) (by omega) ?_
                              rintro _ M88 ⟨rfl, hz, hF1⟩
                              dsimp only [Option.toList, List.cons_append, List.nil_append]
                              have hQ := hF1.at hQ (by decide)
                              have hA := hF1.at hA (by decide)
                              have hF := hF.tr (hF1.mono (by decide))
                              rw [of_v R1 R2 htT hT6 (show 6 < 7 by decide), show ofN (tS (al t)) (1 + cnB (tF (al t)) (tS (al t))) (Q (3 + t)) (kyN T mo (lLn al) (lFl al) t).1 (kyN T mo (lLn al) (lFl al) t).2 (shN T mo od (lLn al) (lFl al) (lUs Q) t).1 (shN T mo od (lLn al) (lFl al) (lUs Q) t).2 6 = (fdL (shN T mo od (lLn al) (lFl al) (lUs Q) t)) from rfl]
                              refine s_iload C 252 dL_same_250 rfl rfl ?_
                              refine s_if_geN C 260 dL_same_252 (by decide) (by omega) ?_
                              refine s_iload C 262 dL_same_260 rfl rfl ?_
                              refine s_bipush C 264 (nI 100) dL_same_262 rfl (by decide) ?_
                              refine s_iremN C 265 dL_same_264 rfl (by omega) (by omega) (by omega) ?_
                              refine s_icmp_ne C 280 268 dL_same_265 (by decide) rfl (fun z265 => ?_) (fun z265 => ?_)
                              · skip
                                exact absurd e2s z265
                              · skip
                                refine s_aload_n C 269 dL_same_268 rfl rfl ?_
                                refine s_iload C 271 dL_same_269 rfl rfl ?_
                                refine s_iload C 273 dL_same_271 rfl rfl ?_
                                refine s_invV C 276 0 0 [] (zR_rv hz) dL_same_273 rfl m_L_52 (z_character hz) rfl rfl rfl ⟨by decide, by decide⟩ (Nat.le_of_ble_eq_true rfl) (by omega) (by omega) ?_
                                rintro _ M89 ⟨rfl, rfl⟩
                                dsimp only [Option.toList, List.cons_append, List.nil_append]
                                rw [ch_e R1 htT hT6]
                                refine s_iconst C 277 (-1) dL_same_276 rfl (by decide) ?_
                                refine s_icmp_eq C 282 280 dL_same_277 (by decide) rfl (fun z277 => ?_) (fun z277 => ?_)
                                · skip
                                  refine s_iload C 284 dL_same_282 rfl rfl ?_
                                  refine s_iload C 286 dL_same_284 rfl rfl ?_
                                  refine s_if_ge C 293 289 dL_same_286 (by decide) rfl (fun z286 => ?_) (fun z286 => ?_)
                                  · skip
                                    exact absurd z286 (by decide)
                                  · skip
                                    refine s_iconst C 290 (nI 1) dL_same_289 rfl (by decide) ?_
                                    refine s_goto C 294 dL_same_290 (by decide) ?_
                                    refine s_iaddN C 295 dL_same_294 rfl ?_
                                    refine s_istore C 297 dL_same_295 rfl rfl rfl ?_
                                    dsimp only [List.set]
                                    refine s_iload C 299 dL_same_297 rfl rfl ?_
                                    refine s_if_lt C 323 302 dL_same_299 (by decide) rfl (fun z299 => ?_) (fun z299 => ?_)
                                    · skip
                                      refine s_bipush C 325 (-6) dL_same_323 rfl (by decide) ?_
                                      refine s_istore C 327 dL_same_325 rfl rfl rfl ?_
                                      dsimp only [List.set]
                                      refine s_aload C 329 dL_same_327 rfl rfl ?_
                                      refine s_iconst C 330 (nI 0) dL_same_329 rfl (by decide) ?_
                                      refine s_iald C 331 dL_same_330 rfl hQ (by omega) (by omega) ?_
                                      rw [hQ0]
                                      refine s_iconst C 332 (nI 1) dL_same_331 rfl (by decide) ?_
                                      refine s_isubN C 333 dL_same_332 rfl (by omega) ?_
                                      refine s_istore C 335 dL_same_333 rfl rfl rfl ?_
                                      dsimp only [List.set]
                                      rw [← nI_dec (show 0 < T by omega)]
                                      suffices lp335 : ∀ (fu335 : Nat) (v : Nat) (o : Option Nat), v < fu335 → v ≤ T → nrI (cmR al t) t v T o → V X 0 0 335 [some (.ref z), some (.int x), some (.long (lN q)), none, some (.ref qa), some (.ref aa), some (.int (nI ((unN T mo (lLn al) (lFl al) t) + 1))), some (.int (oI (hdN T mo (lLn al) (lFl al) t).2)), some (.int (nI ((hdN T mo (lLn al) (lFl al) t).1))), some (.int (nI t)), some (.int (nI (tS (al t)))), some (.int (nI (1 + cnB (tF (al t)) (tS (al t))))), some (.int (-6)), some (.int (nI (100 * (shN T mo od (lLn al) (lFl al) (lUs Q) t).1 + (shN T mo od (lLn al) (lFl al) (lUs Q) t).2))), some (.int (oI o)), some (.int (nI v + Int32.ofInt (-1)))] [] M88 from lp335 (T + 1) T none (by omega) (Nat.le_refl _) (fun u h1 h2 => by omega)
                                      intro fu335
                                      induction fu335 with
                                      | zero => intro v o h; omega
                                      | succ fu335 ih335 =>
                                        intro v o hv0 hvT hn
                                        by_cases hv : 0 < v
                                        · skip
                                          rw [nI_dec hv]
                                          cases o with
                                          | none =>
                                            show V X 0 0 335 [some (.ref z), some (.int x), some (.long (lN q)), none, some (.ref qa), some (.ref aa), some (.int (nI ((unN T mo (lLn al) (lFl al) t) + 1))), some (.int (oI (hdN T mo (lLn al) (lFl al) t).2)), some (.int (nI ((hdN T mo (lLn al) (lFl al) t).1))), some (.int (nI t)), some (.int (nI (tS (al t)))), some (.int (nI (1 + cnB (tF (al t)) (tS (al t))))), some (.int (-6)), some (.int (nI (100 * (shN T mo od (lLn al) (lFl al) (lUs Q) t).1 + (shN T mo od (lLn al) (lFl al) (lUs Q) t).2))), some (.int (-6)), some (.int (nI (v - 1)))] [] M88
                                            refine s_iload C 337 dL_same_335 rfl rfl ?_
                                            refine s_if_ltN C 340 (t := 391) dL_same_337 (by decide) rfl (by omega) ?_
                                            refine s_iload C 342 dL_same_340 rfl rfl ?_
                                            refine s_iload C 344 dL_same_342 rfl rfl ?_
                                            refine s_icmp_eqN C 385 347 dL_same_344 (by decide) rfl (by omega) (by omega) (fun z344 => ?_) (fun z344 => ?_)
                                            · skip
                                              refine s_iinc C 388 (nI (v - 1) + Int32.ofInt (-1)) dL_same_385 rfl rfl rfl rfl ?_
                                              dsimp only [List.set]
                                              refine s_goto C 335 dL_same_388 (by decide) ?_
                                              exact ih335 (v - 1) none (by omega) (by omega) (nrI_t hv hn z344)
                                            · skip
                                              refine s_iload C 349 dL_same_347 rfl rfl ?_
                                              refine s_if_lt C 381 352 dL_same_349 (by decide) rfl (fun z349 => ?_) (fun z349 => ?_)
                                              · skip
                                                refine s_iload C 383 dL_same_381 rfl rfl ?_
                                                refine s_istore C 385 dL_same_383 rfl rfl rfl ?_
                                                dsimp only [List.set]
                                                refine s_iinc C 388 (nI (v - 1) + Int32.ofInt (-1)) dL_same_385 rfl rfl rfl rfl ?_
                                                dsimp only [List.set]
                                                refine s_goto C 335 dL_same_388 (by decide) ?_
                                                exact ih335 (v - 1) (some (v - 1)) (by omega) (by omega) (nrI_0 hv hvT hn z344)
                                              · skip
                                                exact absurd (by decide) z349
                                          | some b =>
                                            have hb0 := hn.2.1
                                            show V X 0 0 335 [some (.ref z), some (.int x), some (.long (lN q)), none, some (.ref qa), some (.ref aa), some (.int (nI ((unN T mo (lLn al) (lFl al) t) + 1))), some (.int (oI (hdN T mo (lLn al) (lFl al) t).2)), some (.int (nI ((hdN T mo (lLn al) (lFl al) t).1))), some (.int (nI t)), some (.int (nI (tS (al t)))), some (.int (nI (1 + cnB (tF (al t)) (tS (al t))))), some (.int (-6)), some (.int (nI (100 * (shN T mo od (lLn al) (lFl al) (lUs Q) t).1 + (shN T mo od (lLn al) (lFl al) (lUs Q) t).2))), some (.int (nI b)), some (.int (nI (v - 1)))] [] M88
                                            refine s_iload C 337 dL_same_335 rfl rfl ?_
                                            refine s_if_ltN C 340 (t := 391) dL_same_337 (by decide) rfl (by omega) ?_
                                            refine s_iload C 342 dL_same_340 rfl rfl ?_
                                            refine s_iload C 344 dL_same_342 rfl rfl ?_
                                            refine s_icmp_eqN C 385 347 dL_same_344 (by decide) rfl (by omega) (by omega) (fun z344 => ?_) (fun z344 => ?_)
                                            · skip
                                              refine s_iinc C 388 (nI (v - 1) + Int32.ofInt (-1)) dL_same_385 rfl rfl rfl rfl ?_
                                              dsimp only [List.set]
                                              refine s_goto C 335 dL_same_388 (by decide) ?_
                                              exact ih335 (v - 1) (some b) (by omega) (by omega) (nrI_t hv hn z344)
                                            · skip
                                              refine s_iload C 349 dL_same_347 rfl rfl ?_
                                              refine s_if_ltN C 352 (t := 381) dL_same_349 (by decide) rfl (by omega) ?_
                                              refine s_aload C 354 dL_same_352 rfl rfl ?_
                                              refine s_iload C 356 dL_same_354 rfl rfl ?_
                                              refine s_laldN C 357 dL_same_356 rfl hA (by omega) (by omega) ?_
                                              refine s_aload C 359 dL_same_357 rfl rfl ?_
                                              refine s_iload C 361 dL_same_359 rfl rfl ?_
                                              refine s_laldN C 362 dL_same_361 rfl hA (by omega) (by omega) ?_
                                              refine s_invS C 365 0 0 [] dL_same_362 rfl m_L_63 (l_common (hg t (by omega)) (hg (v - 1) (by omega))) rfl rfl rfl ⟨by decide, by decide⟩ (Nat.le_of_ble_eq_true rfl) (by omega) (by omega) ?_
                                              rintro _ M90 ⟨rfl, rfl⟩
                                              dsimp only [Option.toList, List.cons_append, List.nil_append]
                                              rw [show cmI (tF (al t)) (tF (al (v - 1))) (tS (al t)) (tS (al (v - 1))) (tS (al t)) = cmR al t (v - 1) from rfl]
                                              have hcm_91 := cmR_le (al := al) (t := t) (u := (v - 1))
                                              refine s_aload C 367 dL_same_365 rfl rfl ?_
                                              refine s_iload C 369 dL_same_367 rfl rfl ?_
                                              refine s_laldN C 370 dL_same_369 rfl hA (by omega) (by omega) ?_
                                              refine s_aload C 372 dL_same_370 rfl rfl ?_
                                              refine s_iload C 374 dL_same_372 rfl rfl ?_
                                              refine s_laldN C 375 dL_same_374 rfl hA (by omega) (by omega) ?_
                                              refine s_invS C 378 0 0 [.int (nI (cmR al t (v - 1)))] dL_same_375 rfl m_L_63 (l_common (hg t (by omega)) (hg b (by omega))) rfl rfl rfl ⟨by decide, by decide⟩ (Nat.le_of_ble_eq_true rfl) (by omega) (by omega) ?_
                                              rintro _ M92 ⟨rfl, rfl⟩
                                              dsimp only [Option.toList, List.cons_append, List.nil_append]
                                              rw [show cmI (tF (al t)) (tF (al b)) (tS (al t)) (tS (al b)) (tS (al t)) = cmR al t b from rfl]
                                              have hcm_93 := cmR_le (al := al) (t := t) (u := b)
                                              refine s_icmp_ltN C 385 381 dL_same_378 (by decide) rfl (by omega) (by omega) (fun z378 => ?_) (fun z378 => ?_)
                                              · skip
                                                refine s_iinc C 388 (nI (v - 1) + Int32.ofInt (-1)) dL_same_385 rfl rfl rfl rfl ?_
                                                dsimp only [List.set]
                                                refine s_goto C 335 dL_same_388 (by decide) ?_
                                                exact ih335 (v - 1) (some b) (by omega) (by omega) (nrI_n hv hn z378)
                                              · skip
                                                refine s_iload C 383 dL_same_381 rfl rfl ?_
                                                refine s_istore C 385 dL_same_383 rfl rfl rfl ?_
                                                dsimp only [List.set]
                                                refine s_iinc C 388 (nI (v - 1) + Int32.ofInt (-1)) dL_same_385 rfl rfl rfl rfl ?_
                                                dsimp only [List.set]
                                                refine s_goto C 335 dL_same_388 (by decide) ?_
                                                exact ih335 (v - 1) (some (v - 1)) (by omega) (by omega) (nrI_y hv hvT hn z344 z378)
                                        · skip
                                          have hv9 : v = 0 := by omega
                                          subst hv9
                                          have hnear : oI (clN (cmR al t) t T) = oI o := congrArg oI (nrI_un (nrI_cl T) hn)
                                          refine s_iload C 337 dL_same_335 rfl rfl ?_
                                          refine s_if_lt C 391 340 dL_same_337 (by decide) rfl (fun z337 => ?_) (fun z337 => ?_)
                                          · skip
                                            refine s_aload_n C 392 dL_same_391 rfl rfl ?_
                                            refine s_iload C 394 dL_same_392 rfl rfl ?_
                                            refine s_invV C 397 0 0 [] (zR_rv hz) dL_same_394 rfl m_L_67 (z_closest hz) rfl rfl rfl ⟨by decide, by decide⟩ (Nat.le_of_ble_eq_true rfl) (by omega) (by omega) ?_
                                            rintro _ M94 ⟨rfl, rfl⟩
                                            dsimp only [Option.toList, List.cons_append, List.nil_append]
                                            rw [cl_v R1 htT hT6]
                                            refine s_iload C 399 dL_same_397 rfl rfl ?_
                                            refine s_icmp_ne C 438 402 dL_same_399 (by decide) rfl (fun z399 => ?_) (fun z399 => ?_)
                                            · skip
                                              exact absurd hnear z399
                                            · skip
                                              refine s_aload_n C 403 dL_same_402 rfl rfl ?_
                                              refine s_iload C 405 dL_same_403 rfl rfl ?_
                                              refine s_iload_n C 406 dL_same_405 rfl rfl ?_
                                              refine s_aload C 408 dL_same_406 rfl rfl ?_
                                              refine s_iconst C 409 (nI 0) dL_same_408 rfl (by decide) ?_
                                              refine s_iald C 410 dL_same_409 rfl hQ (by omega) (by omega) ?_
                                              rw [hQ0]
                                              have hlw := lw_lt (v := x) (m := T) (by omega)
                                              refine s_invS C 413 0 0 [.int (nI t), .ref z] dL_same_410 rfl m_L_70 (l_low (v := x) (m := T) (by omega) (by omega)) rfl rfl rfl ⟨by decide, by decide⟩ (Nat.le_of_ble_eq_true rfl) (by omega) (by omega) ?_
                                              rintro _ M95 ⟨rfl, rfl⟩
                                              dsimp only [Option.toList, List.cons_append, List.nil_append]
                                              have hcm0 := cmR_le (al := al) (t := t) (u := lw x T)
                                              refine s_invV C 416 0 0 [] (zR_rv hz) dL_same_413 rfl m_L_73 (z_common hz) rfl rfl rfl ⟨by decide, by decide⟩ (Nat.le_of_ble_eq_true rfl) (by omega) (by omega) ?_
                                              rintro _ M96 ⟨rfl, rfl⟩
                                              dsimp only [Option.toList, List.cons_append, List.nil_append]
                                              rw [cm_v R1 htT hlw hT6]
                                              refine s_aload C 418 dL_same_416 rfl rfl ?_
                                              refine s_iload C 420 dL_same_418 rfl rfl ?_
                                              refine s_laldN C 421 dL_same_420 rfl hA (by omega) (by omega) ?_
                                              refine s_aload C 423 dL_same_421 rfl rfl ?_
                                              refine s_iload_n C 424 dL_same_423 rfl rfl ?_
                                              refine s_aload C 426 dL_same_424 rfl rfl ?_
                                              refine s_iconst C 427 (nI 0) dL_same_426 rfl (by decide) ?_
                                              refine s_iald C 428 dL_same_427 rfl hQ (by omega) (by omega) ?_
                                              rw [hQ0]
                                              have hlw := lw_lt (v := x) (m := T) (by omega)
                                              refine s_invS C 431 0 0 [.ref aa, .long (lN (al t)), .int (nI (cmR al t (lw x T)))] dL_same_428 rfl m_L_70 (l_low (v := x) (m := T) (by omega) (by omega)) rfl rfl rfl ⟨by decide, by decide⟩ (Nat.le_of_ble_eq_true rfl) (by omega) (by omega) ?_
                                              rintro _ M97 ⟨rfl, rfl⟩
                                              dsimp only [Option.toList, List.cons_append, List.nil_append]
                                              refine s_laldN C 432 dL_same_431 rfl hA (by omega) (by omega) ?_
                                              refine s_invS C 435 0 0 [.int (nI (cmR al t (lw x T)))] dL_same_432 rfl m_L_63 (l_common (hg t (by omega)) (hg (lw x T) (by omega))) rfl rfl rfl ⟨by decide, by decide⟩ (Nat.le_of_ble_eq_true rfl) (by omega) (by omega) ?_
                                              rintro _ M98 ⟨rfl, rfl⟩
                                              dsimp only [Option.toList, List.cons_append, List.nil_append]
                                              rw [show cmI (tF (al t)) (tF (al (lw x T))) (tS (al t)) (tS (al (lw x T))) (tS (al t)) = cmR al t (lw x T) from rfl]
                                              have hcm_99 := cmR_le (al := al) (t := t) (u := (lw x T))
                                              refine s_icmp_eqN C 440 438 dL_same_435 (by decide) rfl (by omega) (by omega) (fun z435 => ?_) (fun z435 => ?_)
                                              · skip
                                                refine s_iinc C 443 (nI (t + 1)) dL_same_440 rfl rfl (by rw [← nI_add]; rfl) rfl ?_
                                                dsimp only [List.set]
                                                refine s_goto C 13 dL_same_443 (by decide) ?_
                                                refine V.drop 10 ?_
                                                dsimp only [List.set]
                                                refine V.drop 11 ?_
                                                dsimp only [List.set]
                                                refine V.drop 12 ?_
                                                dsimp only [List.set]
                                                refine V.drop 13 ?_
                                                dsimp only [List.set]
                                                refine V.drop 14 ?_
                                                dsimp only [List.set]
                                                refine V.drop 15 ?_
                                                dsimp only [List.set]
                                                have i9 := ih13 (t + 1) _ (by omega) (by omega) hz hQ hA hF
                                                rw [un9, hd9] at i9
                                                exact i9
                                              · skip
                                                exact absurd rfl z435
                                          · skip
                                            exact absurd (by decide) z337
                                    · skip
                                      exact absurd (by decide) z299
                                · skip
                                  exact absurd rfl z277
            · skip
              obtain ⟨e0s, e1s, e2s⟩ := kS_n hs
              rw [e0s]
              refine s_aload_n C 127 dL_same_126 rfl rfl ?_
              refine s_iload C 129 dL_same_127 rfl rfl ?_
              refine s_iconst C 130 (nI 0) dL_same_129 rfl (by decide) ?_
              refine s_invV C 133 0 0 [] (zR_rv hz) dL_same_130 rfl m_L_60 (z_of hz) rfl rfl rfl ⟨by decide, by decide⟩ (Nat.le_of_ble_eq_true rfl) (by omega) (by omega) ?_
              rintro _ M100 ⟨rfl, hz, hF1⟩
              dsimp only [Option.toList, List.cons_append, List.nil_append]
              have hQ := hF1.at hQ (by decide)
              have hA := hF1.at hA (by decide)
              have hF := hF.tr (hF1.mono (by decide))
              rw [of_v R1 R2 htT hT6 (show 0 < 7 by decide), show ofN (tS (al t)) (1 + cnB (tF (al t)) (tS (al t))) (Q (3 + t)) (kyN T mo (lLn al) (lFl al) t).1 (kyN T mo (lLn al) (lFl al) t).2 (shN T mo od (lLn al) (lFl al) (lUs Q) t).1 (shN T mo od (lLn al) (lFl al) (lUs Q) t).2 0 = (nI (tS (al t))) from rfl]
              refine s_iload C 135 dL_same_133 rfl rfl ?_
              refine s_icmp_neN C 280 138 dL_same_135 (by decide) rfl (by omega) (by omega) (fun z135 => ?_) (fun z135 => ?_)
              · skip
                exact absurd rfl z135
              · skip
                refine s_aload_n C 139 dL_same_138 rfl rfl ?_
                refine s_iload C 141 dL_same_139 rfl rfl ?_
                refine s_iconst C 142 (nI 1) dL_same_141 rfl (by decide) ?_
                refine s_invV C 145 0 0 [] (zR_rv hz) dL_same_142 rfl m_L_60 (z_of hz) rfl rfl rfl ⟨by decide, by decide⟩ (Nat.le_of_ble_eq_true rfl) (by omega) (by omega) ?_
                rintro _ M101 ⟨rfl, hz, hF1⟩
                dsimp only [Option.toList, List.cons_append, List.nil_append]
                have hQ := hF1.at hQ (by decide)
                have hA := hF1.at hA (by decide)
                have hF := hF.tr (hF1.mono (by decide))
                rw [of_v R1 R2 htT hT6 (show 1 < 7 by decide), show ofN (tS (al t)) (1 + cnB (tF (al t)) (tS (al t))) (Q (3 + t)) (kyN T mo (lLn al) (lFl al) t).1 (kyN T mo (lLn al) (lFl al) t).2 (shN T mo od (lLn al) (lFl al) (lUs Q) t).1 (shN T mo od (lLn al) (lFl al) (lUs Q) t).2 1 = (nI (1 + cnB (tF (al t)) (tS (al t)))) from rfl]
                refine s_iload C 147 dL_same_145 rfl rfl ?_
                refine s_icmp_neN C 280 150 dL_same_147 (by decide) rfl (by omega) (by omega) (fun z147 => ?_) (fun z147 => ?_)
                · skip
                  exact absurd rfl z147
                · skip
                  refine s_aload_n C 151 dL_same_150 rfl rfl ?_
                  refine s_iload C 153 dL_same_151 rfl rfl ?_
                  refine s_iconst C 154 (nI 2) dL_same_153 rfl (by decide) ?_
                  refine s_invV C 157 0 0 [] (zR_rv hz) dL_same_154 rfl m_L_60 (z_of hz) rfl rfl rfl ⟨by decide, by decide⟩ (Nat.le_of_ble_eq_true rfl) (by omega) (by omega) ?_
                  rintro _ M102 ⟨rfl, hz, hF1⟩
                  dsimp only [Option.toList, List.cons_append, List.nil_append]
                  have hQ := hF1.at hQ (by decide)
                  have hA := hF1.at hA (by decide)
                  have hF := hF.tr (hF1.mono (by decide))
                  rw [of_v R1 R2 htT hT6 (show 2 < 7 by decide), show ofN (tS (al t)) (1 + cnB (tF (al t)) (tS (al t))) (Q (3 + t)) (kyN T mo (lLn al) (lFl al) t).1 (kyN T mo (lLn al) (lFl al) t).2 (shN T mo od (lLn al) (lFl al) (lUs Q) t).1 (shN T mo od (lLn al) (lFl al) (lUs Q) t).2 2 = (Q (3 + t)) from rfl]
                  refine s_aload C 159 dL_same_157 rfl rfl ?_
                  refine s_iconst C 160 (nI 3) dL_same_159 rfl (by decide) ?_
                  refine s_iload C 162 dL_same_160 rfl rfl ?_
                  refine s_iaddN C 163 dL_same_162 rfl ?_
                  refine s_iald C 164 dL_same_163 rfl hQ (by omega) (by omega) ?_
                  refine s_icmp_ne C 280 167 dL_same_164 (by decide) rfl (fun z164 => ?_) (fun z164 => ?_)
                  · skip
                    exact absurd rfl z164
                  · skip
                    refine s_aload_n C 168 dL_same_167 rfl rfl ?_
                    refine s_iload C 170 dL_same_168 rfl rfl ?_
                    refine s_iconst C 171 (nI 3) dL_same_170 rfl (by decide) ?_
                    refine s_invV C 174 0 0 [] (zR_rv hz) dL_same_171 rfl m_L_60 (z_of hz) rfl rfl rfl ⟨by decide, by decide⟩ (Nat.le_of_ble_eq_true rfl) (by omega) (by omega) ?_
                    rintro _ M103 ⟨rfl, hz, hF1⟩
                    dsimp only [Option.toList, List.cons_append, List.nil_append]
                    have hQ := hF1.at hQ (by decide)
                    have hA := hF1.at hA (by decide)
                    have hF := hF.tr (hF1.mono (by decide))
                    rw [of_v R1 R2 htT hT6 (show 3 < 7 by decide), show ofN (tS (al t)) (1 + cnB (tF (al t)) (tS (al t))) (Q (3 + t)) (kyN T mo (lLn al) (lFl al) t).1 (kyN T mo (lLn al) (lFl al) t).2 (shN T mo od (lLn al) (lFl al) (lUs Q) t).1 (shN T mo od (lLn al) (lFl al) (lUs Q) t).2 3 = (fdS (kyN T mo (lLn al) (lFl al) t)) from rfl]
                    refine s_iload C 176 dL_same_174 rfl rfl ?_
                    refine s_if_ge C 184 179 dL_same_176 (by decide) rfl (fun z176 => ?_) (fun z176 => ?_)
                    · skip
                      exact absurd z176 (by decide)
                    · skip
                      refine s_iload C 181 dL_same_179 rfl rfl ?_
                      refine s_goto C 189 dL_same_181 (by decide) ?_
                      refine s_icmp_ne C 280 192 dL_same_189 (by decide) rfl (fun z189 => ?_) (fun z189 => ?_)
                      · skip
                        exact absurd e1y z189
                      · skip
                        refine s_aload_n C 193 dL_same_192 rfl rfl ?_
                        refine s_iload C 195 dL_same_193 rfl rfl ?_
                        refine s_iconst C 196 (nI 4) dL_same_195 rfl (by decide) ?_
                        refine s_invV C 199 0 0 [] (zR_rv hz) dL_same_196 rfl m_L_60 (z_of hz) rfl rfl rfl ⟨by decide, by decide⟩ (Nat.le_of_ble_eq_true rfl) (by omega) (by omega) ?_
                        rintro _ M104 ⟨rfl, hz, hF1⟩
                        dsimp only [Option.toList, List.cons_append, List.nil_append]
                        have hQ := hF1.at hQ (by decide)
                        have hA := hF1.at hA (by decide)
                        have hF := hF.tr (hF1.mono (by decide))
                        rw [of_v R1 R2 htT hT6 (show 4 < 7 by decide), show ofN (tS (al t)) (1 + cnB (tF (al t)) (tS (al t))) (Q (3 + t)) (kyN T mo (lLn al) (lFl al) t).1 (kyN T mo (lLn al) (lFl al) t).2 (shN T mo od (lLn al) (lFl al) (lUs Q) t).1 (shN T mo od (lLn al) (lFl al) (lUs Q) t).2 4 = (fdL (kyN T mo (lLn al) (lFl al) t)) from rfl]
                        refine s_iload C 201 dL_same_199 rfl rfl ?_
                        refine s_if_ge C 209 204 dL_same_201 (by decide) rfl (fun z201 => ?_) (fun z201 => ?_)
                        · skip
                          exact absurd z201 (by decide)
                        · skip
                          refine s_iload C 206 dL_same_204 rfl rfl ?_
                          refine s_goto C 214 dL_same_206 (by decide) ?_
                          refine s_icmp_ne C 280 217 dL_same_214 (by decide) rfl (fun z214 => ?_) (fun z214 => ?_)
                          · skip
                            exact absurd e2y z214
                          · skip
                            refine s_aload_n C 218 dL_same_217 rfl rfl ?_
                            refine s_iload C 220 dL_same_218 rfl rfl ?_
                            refine s_iconst C 221 (nI 5) dL_same_220 rfl (by decide) ?_
                            refine s_invV C 224 0 0 [] (zR_rv hz) dL_same_221 rfl m_L_60 (z_of hz) rfl rfl rfl ⟨by decide, by decide⟩ (Nat.le_of_ble_eq_true rfl) (by omega) (by omega) ?_
                            rintro _ M105 ⟨rfl, hz, hF1⟩
                            dsimp only [Option.toList, List.cons_append, List.nil_append]
                            have hQ := hF1.at hQ (by decide)
                            have hA := hF1.at hA (by decide)
                            have hF := hF.tr (hF1.mono (by decide))
                            rw [of_v R1 R2 htT hT6 (show 5 < 7 by decide), show ofN (tS (al t)) (1 + cnB (tF (al t)) (tS (al t))) (Q (3 + t)) (kyN T mo (lLn al) (lFl al) t).1 (kyN T mo (lLn al) (lFl al) t).2 (shN T mo od (lLn al) (lFl al) (lUs Q) t).1 (shN T mo od (lLn al) (lFl al) (lUs Q) t).2 5 = (fdS (shN T mo od (lLn al) (lFl al) (lUs Q) t)) from rfl]
                            refine s_iload C 226 dL_same_224 rfl rfl ?_
                            refine s_if_ge C 234 229 dL_same_226 (by decide) rfl (fun z226 => ?_) (fun z226 => ?_)
                            · skip
                              exact absurd z226 (by decide)
                            · skip
                              refine s_iload C 231 dL_same_229 rfl rfl ?_
                              refine s_goto C 239 dL_same_231 (by decide) ?_
                              refine s_icmp_ne C 280 242 dL_same_239 (by decide) rfl (fun z239 => ?_) (fun z239 => ?_)
                              · skip
                                exact absurd e1s z239
                              · skip
                                refine s_aload_n C 243 dL_same_242 rfl rfl ?_
                                refine s_iload C 245 dL_same_243 rfl rfl ?_
                                refine s_bipush C 247 (nI 6) dL_same_245 rfl (by decide) ?_
                                refine s_invV C 250 0 0 [] (zR_rv hz) dL_same_247 rfl m_L_60 (z_of hz) rfl rfl rfl ⟨by decide, by decide⟩ (Nat.le_of_ble_eq_true rfl) (by omega) (by omega) ?_
                                rintro _ M106 ⟨rfl, hz, hF1⟩
                                dsimp only [Option.toList, List.cons_append, List.nil_append]
                                have hQ := hF1.at hQ (by decide)
                                have hA := hF1.at hA (by decide)
                                have hF := hF.tr (hF1.mono (by decide))
                                rw [of_v R1 R2 htT hT6 (show 6 < 7 by decide), show ofN (tS (al t)) (1 + cnB (tF (al t)) (tS (al t))) (Q (3 + t)) (kyN T mo (lLn al) (lFl al) t).1 (kyN T mo (lLn al) (lFl al) t).2 (shN T mo od (lLn al) (lFl al) (lUs Q) t).1 (shN T mo od (lLn al) (lFl al) (lUs Q) t).2 6 = (fdL (shN T mo od (lLn al) (lFl al) (lUs Q) t)) from rfl]
                                refine s_iload C 252 dL_same_250 rfl rfl ?_
                                refine s_if_ge C 260 255 dL_same_252 (by decide) rfl (fun z252 => ?_) (fun z252 => ?_)
                                · skip
                                  exact absurd z252 (by decide)
                                · skip
                                  refine s_iload C 257 dL_same_255 rfl rfl ?_
                                  refine s_goto C 265 dL_same_257 (by decide) ?_
                                  refine s_icmp_ne C 280 268 dL_same_265 (by decide) rfl (fun z265 => ?_) (fun z265 => ?_)
                                  · skip
                                    exact absurd e2s z265
                                  · skip
                                    refine s_aload_n C 269 dL_same_268 rfl rfl ?_
                                    refine s_iload C 271 dL_same_269 rfl rfl ?_
                                    refine s_iload C 273 dL_same_271 rfl rfl ?_
                                    refine s_invV C 276 0 0 [] (zR_rv hz) dL_same_273 rfl m_L_52 (z_character hz) rfl rfl rfl ⟨by decide, by decide⟩ (Nat.le_of_ble_eq_true rfl) (by omega) (by omega) ?_
                                    rintro _ M107 ⟨rfl, rfl⟩
                                    dsimp only [Option.toList, List.cons_append, List.nil_append]
                                    rw [ch_e R1 htT hT6]
                                    refine s_iconst C 277 (-1) dL_same_276 rfl (by decide) ?_
                                    refine s_icmp_eq C 282 280 dL_same_277 (by decide) rfl (fun z277 => ?_) (fun z277 => ?_)
                                    · skip
                                      refine s_iload C 284 dL_same_282 rfl rfl ?_
                                      refine s_iload C 286 dL_same_284 rfl rfl ?_
                                      refine s_if_ge C 293 289 dL_same_286 (by decide) rfl (fun z286 => ?_) (fun z286 => ?_)
                                      · skip
                                        exact absurd z286 (by decide)
                                      · skip
                                        refine s_iconst C 290 (nI 1) dL_same_289 rfl (by decide) ?_
                                        refine s_goto C 294 dL_same_290 (by decide) ?_
                                        refine s_iaddN C 295 dL_same_294 rfl ?_
                                        refine s_istore C 297 dL_same_295 rfl rfl rfl ?_
                                        dsimp only [List.set]
                                        refine s_iload C 299 dL_same_297 rfl rfl ?_
                                        refine s_if_lt C 323 302 dL_same_299 (by decide) rfl (fun z299 => ?_) (fun z299 => ?_)
                                        · skip
                                          refine s_bipush C 325 (-6) dL_same_323 rfl (by decide) ?_
                                          refine s_istore C 327 dL_same_325 rfl rfl rfl ?_
                                          dsimp only [List.set]
                                          refine s_aload C 329 dL_same_327 rfl rfl ?_
                                          refine s_iconst C 330 (nI 0) dL_same_329 rfl (by decide) ?_
                                          refine s_iald C 331 dL_same_330 rfl hQ (by omega) (by omega) ?_
                                          rw [hQ0]
                                          refine s_iconst C 332 (nI 1) dL_same_331 rfl (by decide) ?_
                                          refine s_isubN C 333 dL_same_332 rfl (by omega) ?_
                                          refine s_istore C 335 dL_same_333 rfl rfl rfl ?_
                                          dsimp only [List.set]
                                          rw [← nI_dec (show 0 < T by omega)]
                                          suffices lp335 : ∀ (fu335 : Nat) (v : Nat) (o : Option Nat), v < fu335 → v ≤ T → nrI (cmR al t) t v T o → V X 0 0 335 [some (.ref z), some (.int x), some (.long (lN q)), none, some (.ref qa), some (.ref aa), some (.int (nI ((unN T mo (lLn al) (lFl al) t) + 1))), some (.int (oI (hdN T mo (lLn al) (lFl al) t).2)), some (.int (nI ((hdN T mo (lLn al) (lFl al) t).1))), some (.int (nI t)), some (.int (nI (tS (al t)))), some (.int (nI (1 + cnB (tF (al t)) (tS (al t))))), some (.int (-6)), some (.int (-6)), some (.int (oI o)), some (.int (nI v + Int32.ofInt (-1)))] [] M106 from lp335 (T + 1) T none (by omega) (Nat.le_refl _) (fun u h1 h2 => by omega)
                                          intro fu335
                                          induction fu335 with
                                          | zero => intro v o h; omega
                                          | succ fu335 ih335 =>
                                            intro v o hv0 hvT hn
                                            by_cases hv : 0 < v
                                            · skip
                                              rw [nI_dec hv]
                                              cases o with
                                              | none =>
                                                show V X 0 0 335 [some (.ref z), some (.int x), some (.long (lN q)), none, some (.ref qa), some (.ref aa), some (.int (nI ((unN T mo (lLn al) (lFl al) t) + 1))), some (.int (oI (hdN T mo (lLn al) (lFl al) t).2)), some (.int (nI ((hdN T mo (lLn al) (lFl al) t).1))), some (.int (nI t)), some (.int (nI (tS (al t)))), some (.int (nI (1 + cnB (tF (al t)) (tS (al t))))), some (.int (-6)), some (.int (-6)), some (.int (-6)), some (.int (nI (v - 1)))] [] M106
                                                refine s_iload C 337 dL_same_335 rfl rfl ?_
                                                refine s_if_ltN C 340 (t := 391) dL_same_337 (by decide) rfl (by omega) ?_
                                                refine s_iload C 342 dL_same_340 rfl rfl ?_
                                                refine s_iload C 344 dL_same_342 rfl rfl ?_
                                                refine s_icmp_eqN C 385 347 dL_same_344 (by decide) rfl (by omega) (by omega) (fun z344 => ?_) (fun z344 => ?_)
                                                · skip
                                                  refine s_iinc C 388 (nI (v - 1) + Int32.ofInt (-1)) dL_same_385 rfl rfl rfl rfl ?_
                                                  dsimp only [List.set]
                                                  refine s_goto C 335 dL_same_388 (by decide) ?_
                                                  exact ih335 (v - 1) none (by omega) (by omega) (nrI_t hv hn z344)
                                                · skip
                                                  refine s_iload C 349 dL_same_347 rfl rfl ?_
                                                  refine s_if_lt C 381 352 dL_same_349 (by decide) rfl (fun z349 => ?_) (fun z349 => ?_)
                                                  · skip
                                                    refine s_iload C 383 dL_same_381 rfl rfl ?_
                                                    refine s_istore C 385 dL_same_383 rfl rfl rfl ?_
                                                    dsimp only [List.set]
                                                    refine s_iinc C 388 (nI (v - 1) + Int32.ofInt (-1)) dL_same_385 rfl rfl rfl rfl ?_
                                                    dsimp only [List.set]
                                                    refine s_goto C 335 dL_same_388 (by decide) ?_
                                                    exact ih335 (v - 1) (some (v - 1)) (by omega) (by omega) (nrI_0 hv hvT hn z344)
                                                  · skip
                                                    exact absurd (by decide) z349
                                              | some b =>
                                                have hb0 := hn.2.1
                                                show V X 0 0 335 [some (.ref z), some (.int x), some (.long (lN q)), none, some (.ref qa), some (.ref aa), some (.int (nI ((unN T mo (lLn al) (lFl al) t) + 1))), some (.int (oI (hdN T mo (lLn al) (lFl al) t).2)), some (.int (nI ((hdN T mo (lLn al) (lFl al) t).1))), some (.int (nI t)), some (.int (nI (tS (al t)))), some (.int (nI (1 + cnB (tF (al t)) (tS (al t))))), some (.int (-6)), some (.int (-6)), some (.int (nI b)), some (.int (nI (v - 1)))] [] M106
                                                refine s_iload C 337 dL_same_335 rfl rfl ?_
                                                refine s_if_ltN C 340 (t := 391) dL_same_337 (by decide) rfl (by omega) ?_
                                                refine s_iload C 342 dL_same_340 rfl rfl ?_
                                                refine s_iload C 344 dL_same_342 rfl rfl ?_
                                                refine s_icmp_eqN C 385 347 dL_same_344 (by decide) rfl (by omega) (by omega) (fun z344 => ?_) (fun z344 => ?_)
                                                · skip
                                                  refine s_iinc C 388 (nI (v - 1) + Int32.ofInt (-1)) dL_same_385 rfl rfl rfl rfl ?_
                                                  dsimp only [List.set]
                                                  refine s_goto C 335 dL_same_388 (by decide) ?_
                                                  exact ih335 (v - 1) (some b) (by omega) (by omega) (nrI_t hv hn z344)
                                                · skip
                                                  refine s_iload C 349 dL_same_347 rfl rfl ?_
                                                  refine s_if_ltN C 352 (t := 381) dL_same_349 (by decide) rfl (by omega) ?_
                                                  refine s_aload C 354 dL_same_352 rfl rfl ?_
                                                  refine s_iload C 356 dL_same_354 rfl rfl ?_
                                                  refine s_laldN C 357 dL_same_356 rfl hA (by omega) (by omega) ?_
                                                  refine s_aload C 359 dL_same_357 rfl rfl ?_
                                                  refine s_iload C 361 dL_same_359 rfl rfl ?_
                                                  refine s_laldN C 362 dL_same_361 rfl hA (by omega) (by omega) ?_
                                                  refine s_invS C 365 0 0 [] dL_same_362 rfl m_L_63 (l_common (hg t (by omega)) (hg (v - 1) (by omega))) rfl rfl rfl ⟨by decide, by decide⟩ (Nat.le_of_ble_eq_true rfl) (by omega) (by omega) ?_
                                                  rintro _ M108 ⟨rfl, rfl⟩
                                                  dsimp only [Option.toList, List.cons_append, List.nil_append]
                                                  rw [show cmI (tF (al t)) (tF (al (v - 1))) (tS (al t)) (tS (al (v - 1))) (tS (al t)) = cmR al t (v - 1) from rfl]
                                                  have hcm_109 := cmR_le (al := al) (t := t) (u := (v - 1))
                                                  refine s_aload C 367 dL_same_365 rfl rfl ?_
                                                  refine s_iload C 369 dL_same_367 rfl rfl ?_
                                                  refine s_laldN C 370 dL_same_369 rfl hA (by omega) (by omega) ?_
                                                  refine s_aload C 372 dL_same_370 rfl rfl ?_
                                                  refine s_iload C 374 dL_same_372 rfl rfl ?_
                                                  refine s_laldN C 375 dL_same_374 rfl hA (by omega) (by omega) ?_
                                                  refine s_invS C 378 0 0 [.int (nI (cmR al t (v - 1)))] dL_same_375 rfl m_L_63 (l_common (hg t (by omega)) (hg b (by omega))) rfl rfl rfl ⟨by decide, by decide⟩ (Nat.le_of_ble_eq_true rfl) (by omega) (by omega) ?_
                                                  rintro _ M110 ⟨rfl, rfl⟩
                                                  dsimp only [Option.toList, List.cons_append, List.nil_append]
                                                  rw [show cmI (tF (al t)) (tF (al b)) (tS (al t)) (tS (al b)) (tS (al t)) = cmR al t b from rfl]
                                                  have hcm_111 := cmR_le (al := al) (t := t) (u := b)
                                                  refine s_icmp_ltN C 385 381 dL_same_378 (by decide) rfl (by omega) (by omega) (fun z378 => ?_) (fun z378 => ?_)
                                                  · skip
                                                    refine s_iinc C 388 (nI (v - 1) + Int32.ofInt (-1)) dL_same_385 rfl rfl rfl rfl ?_
                                                    dsimp only [List.set]
                                                    refine s_goto C 335 dL_same_388 (by decide) ?_
                                                    exact ih335 (v - 1) (some b) (by omega) (by omega) (nrI_n hv hn z378)
                                                  · skip
                                                    refine s_iload C 383 dL_same_381 rfl rfl ?_
                                                    refine s_istore C 385 dL_same_383 rfl rfl rfl ?_
                                                    dsimp only [List.set]
                                                    refine s_iinc C 388 (nI (v - 1) + Int32.ofInt (-1)) dL_same_385 rfl rfl rfl rfl ?_
                                                    dsimp only [List.set]
                                                    refine s_goto C 335 dL_same_388 (by decide) ?_
                                                    exact ih335 (v - 1) (some (v - 1)) (by omega) (by omega) (nrI_y hv hvT hn z344 z378)
                                            · skip
                                              have hv9 : v = 0 := by omega
                                              subst hv9
                                              have hnear : oI (clN (cmR al t) t T) = oI o := congrArg oI (nrI_un (nrI_cl T) hn)
                                              refine s_iload C 337 dL_same_335 rfl rfl ?_
                                              refine s_if_lt C 391 340 dL_same_337 (by decide) rfl (fun z337 => ?_) (fun z337 => ?_)
                                              · skip
                                                refine s_aload_n C 392 dL_same_391 rfl rfl ?_
                                                refine s_iload C 394 dL_same_392 rfl rfl ?_
                                                refine s_invV C 397 0 0 [] (zR_rv hz) dL_same_394 rfl m_L_67 (z_closest hz) rfl rfl rfl ⟨by decide, by decide⟩ (Nat.le_of_ble_eq_true rfl) (by omega) (by omega) ?_
                                                rintro _ M112 ⟨rfl, rfl⟩
                                                dsimp only [Option.toList, List.cons_append, List.nil_append]
                                                rw [cl_v R1 htT hT6]
                                                refine s_iload C 399 dL_same_397 rfl rfl ?_
                                                refine s_icmp_ne C 438 402 dL_same_399 (by decide) rfl (fun z399 => ?_) (fun z399 => ?_)
                                                · skip
                                                  exact absurd hnear z399
                                                · skip
                                                  refine s_aload_n C 403 dL_same_402 rfl rfl ?_
                                                  refine s_iload C 405 dL_same_403 rfl rfl ?_
                                                  refine s_iload_n C 406 dL_same_405 rfl rfl ?_
                                                  refine s_aload C 408 dL_same_406 rfl rfl ?_
                                                  refine s_iconst C 409 (nI 0) dL_same_408 rfl (by decide) ?_
                                                  refine s_iald C 410 dL_same_409 rfl hQ (by omega) (by omega) ?_
                                                  rw [hQ0]
                                                  have hlw := lw_lt (v := x) (m := T) (by omega)
                                                  refine s_invS C 413 0 0 [.int (nI t), .ref z] dL_same_410 rfl m_L_70 (l_low (v := x) (m := T) (by omega) (by omega)) rfl rfl rfl ⟨by decide, by decide⟩ (Nat.le_of_ble_eq_true rfl) (by omega) (by omega) ?_
                                                  rintro _ M113 ⟨rfl, rfl⟩
                                                  dsimp only [Option.toList, List.cons_append, List.nil_append]
                                                  have hcm0 := cmR_le (al := al) (t := t) (u := lw x T)
                                                  refine s_invV C 416 0 0 [] (zR_rv hz) dL_same_413 rfl m_L_73 (z_common hz) rfl rfl rfl ⟨by decide, by decide⟩ (Nat.le_of_ble_eq_true rfl) (by omega) (by omega) ?_
                                                  rintro _ M114 ⟨rfl, rfl⟩
                                                  dsimp only [Option.toList, List.cons_append, List.nil_append]
                                                  rw [cm_v R1 htT hlw hT6]
                                                  refine s_aload C 418 dL_same_416 rfl rfl ?_
                                                  refine s_iload C 420 dL_same_418 rfl rfl ?_
                                                  refine s_laldN C 421 dL_same_420 rfl hA (by omega) (by omega) ?_
                                                  refine s_aload C 423 dL_same_421 rfl rfl ?_
                                                  refine s_iload_n C 424 dL_same_423 rfl rfl ?_
                                                  refine s_aload C 426 dL_same_424 rfl rfl ?_
                                                  refine s_iconst C 427 (nI 0) dL_same_426 rfl (by decide) ?_
                                                  refine s_iald C 428 dL_same_427 rfl hQ (by omega) (by omega) ?_
                                                  rw [hQ0]
                                                  have hlw := lw_lt (v := x) (m := T) (by omega)
                                                  refine s_invS C 431 0 0 [.ref aa, .long (lN (al t)), .int (nI (cmR al t (lw x T)))] dL_same_428 rfl m_L_70 (l_low (v := x) (m := T) (by omega) (by omega)) rfl rfl rfl ⟨by decide, by decide⟩ (Nat.le_of_ble_eq_true rfl) (by omega) (by omega) ?_
                                                  rintro _ M115 ⟨rfl, rfl⟩
                                                  dsimp only [Option.toList, List.cons_append, List.nil_append]
                                                  refine s_laldN C 432 dL_same_431 rfl hA (by omega) (by omega) ?_
                                                  refine s_invS C 435 0 0 [.int (nI (cmR al t (lw x T)))] dL_same_432 rfl m_L_63 (l_common (hg t (by omega)) (hg (lw x T) (by omega))) rfl rfl rfl ⟨by decide, by decide⟩ (Nat.le_of_ble_eq_true rfl) (by omega) (by omega) ?_
                                                  rintro _ M116 ⟨rfl, rfl⟩
                                                  dsimp only [Option.toList, List.cons_append, List.nil_append]
                                                  rw [show cmI (tF (al t)) (tF (al (lw x T))) (tS (al t)) (tS (al (lw x T))) (tS (al t)) = cmR al t (lw x T) from rfl]
                                                  have hcm_117 := cmR_le (al := al) (t := t) (u := (lw x T))
                                                  refine s_icmp_eqN C 440 438 dL_same_435 (by decide) rfl (by omega) (by omega) (fun z435 => ?_) (fun z435 => ?_)
                                                  · skip
                                                    refine s_iinc C 443 (nI (t + 1)) dL_same_440 rfl rfl (by rw [← nI_add]; rfl) rfl ?_
                                                    dsimp only [List.set]
                                                    refine s_goto C 13 dL_same_443 (by decide) ?_
                                                    refine V.drop 10 ?_
                                                    dsimp only [List.set]
                                                    refine V.drop 11 ?_
                                                    dsimp only [List.set]
                                                    refine V.drop 12 ?_
                                                    dsimp only [List.set]
                                                    refine V.drop 13 ?_
                                                    dsimp only [List.set]
                                                    refine V.drop 14 ?_
                                                    dsimp only [List.set]
                                                    refine V.drop 15 ?_
                                                    dsimp only [List.set]
                                                    have i9 := ih13 (t + 1) _ (by omega) (by omega) hz hQ hA hF
                                                    rw [un9, hd9] at i9
                                                    exact i9
                                                  · skip
                                                    exact absurd rfl z435
                                              · skip
                                                exact absurd (by decide) z337
                                        · skip
                                          exact absurd (by decide) z299
                                    · skip
                                      exact absurd rfl z277
        · skip
          refine s_iload C 47 dL_same_45 rfl rfl ?_
          refine s_aload C 49 dL_same_47 rfl rfl ?_
          refine s_iload C 51 dL_same_49 rfl rfl ?_
          refine s_laldN C 52 dL_same_51 rfl hA (by omega) (by omega) ?_
          refine s_iload C 54 dL_same_52 rfl rfl ?_
          refine s_invS C 57 0 0 [.int (nI (1 + cnB (tF (al t)) k))] dL_same_54 rfl m_L_12 (l_at (t := al t) (k := k) (by first | exact hq.1.lt | exact (hg _ htT).g.lt) (by omega)) rfl rfl rfl ⟨by decide, by decide⟩ (Nat.le_of_ble_eq_true rfl) (by omega) (by omega) ?_
          rintro _ M118 ⟨rfl, rfl⟩
          dsimp only [Option.toList, List.cons_append, List.nil_append]
          refine s_bipush C 59 (nI 27) dL_same_57 rfl (by decide) ?_
          refine s_icmp_neN C 66 62 dL_same_59 (by decide) rfl (by omega) (by omega) (fun z59 => ?_) (fun z59 => ?_)
          · skip
            refine s_iconst C 67 (nI 0) dL_same_66 rfl (by decide) ?_
            refine s_iaddN C 68 dL_same_67 rfl ?_
            refine s_istore C 70 dL_same_68 rfl rfl rfl ?_
            dsimp only [List.set]
            refine s_aload_n C 71 dL_same_70 rfl rfl ?_
            refine s_iload C 73 dL_same_71 rfl rfl ?_
            refine s_iload C 75 dL_same_73 rfl rfl ?_
            refine s_invV C 78 0 0 [] (zR_rv hz) dL_same_75 rfl m_L_52 (z_character hz) rfl rfl rfl ⟨by decide, by decide⟩ (Nat.le_of_ble_eq_true rfl) (by omega) (by omega) ?_
            rintro _ M119 ⟨rfl, rfl⟩
            dsimp only [Option.toList, List.cons_append, List.nil_append]
            rw [ch_v R1 htT hT6 (by omega)]
            refine s_aload C 80 dL_same_78 rfl rfl ?_
            refine s_iload C 82 dL_same_80 rfl rfl ?_
            refine s_laldN C 83 dL_same_82 rfl hA (by omega) (by omega) ?_
            refine s_iload C 85 dL_same_83 rfl rfl ?_
            refine s_invS C 88 0 0 [.int (nI (tC (tA (al t) k)))] dL_same_85 rfl m_L_12 (l_at (t := al t) (k := k) (by first | exact hq.1.lt | exact (hg _ htT).g.lt) (by omega)) rfl rfl rfl ⟨by decide, by decide⟩ (Nat.le_of_ble_eq_true rfl) (by omega) (by omega) ?_
            rintro _ M120 ⟨rfl, rfl⟩
            dsimp only [Option.toList, List.cons_append, List.nil_append]
            refine s_invS C 91 0 0 [.int (nI (tC (tA (al t) k)))] dL_same_88 rfl m_L_30 (l_code (c := tA (al t) k) (by omega)) rfl rfl rfl ⟨by decide, by decide⟩ (Nat.le_of_ble_eq_true rfl) (by omega) (by omega) ?_
            rintro _ M121 ⟨rfl, rfl⟩
            dsimp only [Option.toList, List.cons_append, List.nil_append]
            refine s_icmp_eqN C 96 94 dL_same_91 (by decide) rfl (by omega) (by omega) (fun z91 => ?_) (fun z91 => ?_)
            · skip
              refine s_iinc C 99 (nI (k + 1)) dL_same_96 rfl rfl (by rw [← nI_add]; rfl) rfl ?_
              dsimp only [List.set]
              refine s_goto C 38 dL_same_99 (by decide) ?_
              have e9 : 1 + cnB (tF (al t)) (k + 1) = 1 + cnB (tF (al t)) k + 0 := by rw [cnB, if_neg (fun w => z59 ((tF_32 hgt.c (by omega)).mp w))]; omega
              have i9 := ih38 (k + 1) (by omega) (by omega)
              rw [e9] at i9
              exact i9
            · skip
              exact absurd rfl z91
          · skip
            refine s_iconst C 63 (nI 1) dL_same_62 rfl (by decide) ?_
            refine s_goto C 67 dL_same_63 (by decide) ?_
            refine s_iaddN C 68 dL_same_67 rfl ?_
            refine s_istore C 70 dL_same_68 rfl rfl rfl ?_
            dsimp only [List.set]
            refine s_aload_n C 71 dL_same_70 rfl rfl ?_
            refine s_iload C 73 dL_same_71 rfl rfl ?_
            refine s_iload C 75 dL_same_73 rfl rfl ?_
            refine s_invV C 78 0 0 [] (zR_rv hz) dL_same_75 rfl m_L_52 (z_character hz) rfl rfl rfl ⟨by decide, by decide⟩ (Nat.le_of_ble_eq_true rfl) (by omega) (by omega) ?_
            rintro _ M122 ⟨rfl, rfl⟩
            dsimp only [Option.toList, List.cons_append, List.nil_append]
            rw [ch_v R1 htT hT6 (by omega)]
            refine s_aload C 80 dL_same_78 rfl rfl ?_
            refine s_iload C 82 dL_same_80 rfl rfl ?_
            refine s_laldN C 83 dL_same_82 rfl hA (by omega) (by omega) ?_
            refine s_iload C 85 dL_same_83 rfl rfl ?_
            refine s_invS C 88 0 0 [.int (nI (tC (tA (al t) k)))] dL_same_85 rfl m_L_12 (l_at (t := al t) (k := k) (by first | exact hq.1.lt | exact (hg _ htT).g.lt) (by omega)) rfl rfl rfl ⟨by decide, by decide⟩ (Nat.le_of_ble_eq_true rfl) (by omega) (by omega) ?_
            rintro _ M123 ⟨rfl, rfl⟩
            dsimp only [Option.toList, List.cons_append, List.nil_append]
            refine s_invS C 91 0 0 [.int (nI (tC (tA (al t) k)))] dL_same_88 rfl m_L_30 (l_code (c := tA (al t) k) (by omega)) rfl rfl rfl ⟨by decide, by decide⟩ (Nat.le_of_ble_eq_true rfl) (by omega) (by omega) ?_
            rintro _ M124 ⟨rfl, rfl⟩
            dsimp only [Option.toList, List.cons_append, List.nil_append]
            refine s_icmp_eqN C 96 94 dL_same_91 (by decide) rfl (by omega) (by omega) (fun z91 => ?_) (fun z91 => ?_)
            · skip
              refine s_iinc C 99 (nI (k + 1)) dL_same_96 rfl rfl (by rw [← nI_add]; rfl) rfl ?_
              dsimp only [List.set]
              refine s_goto C 38 dL_same_99 (by decide) ?_
              have e9 : 1 + cnB (tF (al t)) (k + 1) = 1 + cnB (tF (al t)) k + 1 := by rw [cnB, if_pos ((tF_32 hgt.c (by omega)).mpr z59)]; omega
              have i9 := ih38 (k + 1) (by omega) (by omega)
              rw [e9] at i9
              exact i9
            · skip
              exact absurd rfl z91
