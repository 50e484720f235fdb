/-! what the methods make of a state -/
def dpF {α : Type} (f : Nat → α) (t : Nat) : Nat → α := fun i => if i < t then f i else f (i + 1)
def adF {α : Type} (f : Nat → α) (t : Nat) (v : α) : Nat → α := fun i => if i = t then v else f i
def stDrop (T mo od ql : Nat) (q : Nat → Int32) (ln : Nat → Nat) (fl : Nat → Nat → Int32) (us : Nat → Int32) (t : Nat) : mSt := (T - 1, mo, od, ql, q, dpF ln t, dpF fl t, dpF us t)
theorem isL_nar {a : Int32} (h : a = nI 32 ∨ isL a = true) : vp_nar .char a = a := by
  have h1 : ¬ a < nI 32 ∧ a ≤ nI 126 := by
    rcases h with rfl | h
    · exact ⟨by decide, by decide⟩
    · unfold isL isD at h
      simp only [Bool.or_eq_true, decide_eq_true_eq, Int32.le_iff_toInt_le, Int32.lt_iff_toInt_lt] at h ⊢
      rw [nI_toInt (by omega), nI_toInt (by omega), nI_toInt (by omega), nI_toInt (by omega)] at h
      rw [nI_toInt (by omega), nI_toInt (by omega)]
      omega
  exact nar_ch h1.1 h1.2
set_option maxRecDepth 100000 in
set_option maxHeartbeats 4000000 in
theorem z_unknown {G : mG} {M : mM} {z T mo od ql c n : Nat} {q : Nat → Int32} {ln : Nat → Nat} {fl : Nat → Nat → Int32} {us : Nat → Int32} {hs : Nat → mSt} {g : Nat → Int32} (hz : zR G M z (T, mo, od, ql, q, ln, fl, us) c hs n g) (hT0 : T ≤ 16) : CC G iX6_unknown 0 0 [.ref z] M (fun r M1 => r = some (.int (nI (unN T mo ln fl T))) ∧ zR G M1 z (T, mo, od, ql, q, ln, fl, us) c hs n g ∧ mZ [40, 42] M M1) := by
  refine CC.of rfl (Nat.le_of_ble_eq_true rfl) rfl (fun X C Tr => ?_)
  show V X 0 0 0 [some (.ref z), none, none] [] M
  refine s_iconst C 1 (nI 0) dX6_unknown_0 rfl (by decide) ?_
  refine s_istore_n C 2 dX6_unknown_1 rfl rfl rfl ?_
  dsimp only [List.set]
  refine s_iconst C 3 (nI 0) dX6_unknown_2 rfl (by decide) ?_
  refine s_istore_n C 4 dX6_unknown_3 rfl rfl rfl ?_
  dsimp only [List.set]
  suffices lp4 : ∀ (fu4 : Nat) (t : Nat) (M9 : mM), T - t < fu4 → t ≤ T → zR G M9 z (T, mo, od, ql, q, ln, fl, us) c hs n g → mZ [40, 42] M M9 → V X 0 0 4 [some (.ref z), some (.int (nI (unN T mo ln fl t))), some (.int (nI t))] [] M9 from lp4 (T + 1) 0 _ (by omega) (by omega) hz mZ.rf
  intro fu4
  induction fu4 with
  | zero => intro t M9 ht0 ht hz9 hF; omega
  | succ fu4 ih4 =>
    intro t M9 ht0 ht hz9 hF
    have hz9b := hz9
    obtain ⟨rc, rr, rp, y1, y2, y3, y4, s, tr, h, tx, rk, sy, hZ, hs0, ⟨yt, htr⟩, hh, ⟨p, cmd, val, fr, to, hx⟩, hk, ⟨yw, hy⟩, hch⟩ := hz9
    obtain ⟨q9, hq9, hqn9, hsR⟩ := hs0.get
    have hsR0 := hsR
    obtain ⟨la, qa, cap, gg, ad, ifn, hS, hL, hQ, hT, hmo, hod, hql, hA⟩ := hsR
    have hun := unN_le (T := T) (mo := mo) (ln := ln) (fl := fl) t
    refine s_iload_n C 5 dX6_unknown_4 rfl rfl ?_
    refine s_aload_n C 6 dX6_unknown_5 rfl rfl ?_
    refine s_getf C 9 dX6_unknown_6 rfl f_X6_10 hZ rfl ?_
    refine s_getf C 12 dX6_unknown_9 rfl f_X6_119 hS rfl ?_
    refine s_invV C 15 0 0 [.int (nI t)] (lR_rv hL) dX6_unknown_12 rfl m_X6_129 (c_size hL) rfl rfl rfl ⟨by decide, by decide⟩ (Nat.le_of_ble_eq_true rfl) (by omega) (by omega) ?_
    rintro _ M1 ⟨rfl, rfl⟩
    dsimp only [Option.toList, List.cons_append, List.nil_append]
    refine s_icmp_geN C 49 18 dX6_unknown_15 (by decide) rfl (by omega) (by omega) (fun z15 => ?_) (fun z15 => ?_)
    · skip
      have ht9 : t = T := by omega
      refine s_iload_n C 50 dX6_unknown_49 rfl rfl ?_
      exact s_iret C dX6_unknown_50 Tr rfl ⟨by rw [ht9], hz9b, hF⟩
    · skip
      refine s_aload_n C 19 dX6_unknown_18 rfl rfl ?_
      refine s_getf C 22 dX6_unknown_19 rfl f_X6_43 hZ rfl ?_
      refine s_aload_n C 23 dX6_unknown_22 rfl rfl ?_
      refine s_getf C 26 dX6_unknown_23 rfl f_X6_10 hZ rfl ?_
      refine s_iload_n C 27 dX6_unknown_26 rfl rfl ?_
      refine s_invV C 30 0 0 [] (yR_rv hy) dX6_unknown_27 rfl m_X6_148 (c_look (t := t) hsR0 hy (by omega)) rfl rfl rfl ⟨by decide, by decide⟩ (Nat.le_of_ble_eq_true rfl) (by omega) (by omega) ?_
      rintro _ M2 ⟨rfl, ks9, kl9, ss9, sl9, rw9, hy9, hbk, hbs, hFy⟩
      dsimp only [Option.toList, List.cons_append, List.nil_append]
      have hZ := hFy.at hZ (by first | (simp; done) | (simp; omega) | (rw [mem_TH]; omega) | (rw [mem_TZ]; omega))
      have hs0 := hs0.at hFy (by first | (simp; done) | (simp; omega) | (rw [mem_TH]; omega) | (rw [mem_TZ]; omega)) (by first | (simp; done) | (simp; omega) | (rw [mem_TH]; omega) | (rw [mem_TZ]; omega)) (fun j hj => by first | (simp; done) | (simp; omega) | (rw [mem_TH]; omega) | (rw [mem_TZ]; omega))
      have htr := htr.at hFy (by first | (simp; done) | (simp; omega) | (rw [mem_TH]; omega) | (rw [mem_TZ]; omega)) (by first | (simp; done) | (simp; omega) | (rw [mem_TH]; omega) | (rw [mem_TZ]; omega)) (fun j hj => by first | (simp; done) | (simp; omega) | (rw [mem_TH]; omega) | (rw [mem_TZ]; omega))
      have hh := hh.at hFy (by first | (simp; done) | (simp; omega) | (rw [mem_TH]; omega) | (rw [mem_TZ]; omega)) (by first | (simp; done) | (simp; omega) | (rw [mem_TH]; omega) | (rw [mem_TZ]; omega)) (by first | (simp; done) | (simp; omega) | (rw [mem_TH]; omega) | (rw [mem_TZ]; omega)) (fun t ht => by rw [mem_TH] at ht; first | (simp; done) | (simp; omega))
      have hx := hx.at hFy (by first | (simp; done) | (simp; omega) | (rw [mem_TH]; omega) | (rw [mem_TZ]; omega)) (by first | (simp; done) | (simp; omega) | (rw [mem_TH]; omega) | (rw [mem_TZ]; omega))
      have hk := hk.at hFy (by first | (simp; done) | (simp; omega) | (rw [mem_TH]; omega) | (rw [mem_TZ]; omega)) (by first | (simp; done) | (simp; omega) | (rw [mem_TH]; omega) | (rw [mem_TZ]; omega)) (by first | (simp; done) | (simp; omega) | (rw [mem_TH]; omega) | (rw [mem_TZ]; omega))
      have hy := hy9
      have hky := kyN_of hbk (hA t (by omega)).2.2.2
      have hsh := shN_of hbs (hA t (by omega)).2.2.2
      have hsR0 := hsR0.at hFy (by simp) (by simp) (by simp) (by simp) (by simp) (by simp)
      obtain ⟨pA, gA, ra, hY, hyx⟩ := hy9
      refine s_aload_n C 31 dX6_unknown_30 rfl rfl ?_
      refine s_getf C 34 dX6_unknown_31 rfl f_X6_43 hZ rfl ?_
      refine s_invV C 37 0 0 [] (yR_rv hy) dX6_unknown_34 rfl m_X6_162 (c_hasKey hy) rfl rfl rfl ⟨by decide, by decide⟩ (Nat.le_of_ble_eq_true rfl) (by omega) (by omega) ?_
      rintro _ M3 ⟨rfl, rfl⟩
      dsimp only [Option.toList, List.cons_append, List.nil_append]
      refine s_if_neB C 43 40 dX6_unknown_37 (by decide) rfl (fun z37 => ?_) (fun z37 => ?_)
      · skip
        have hkl := of_decide_eq_true z37
        refine s_iinc C 46 (nI (t + 1)) dX6_unknown_43 rfl rfl (by rw [← nI_add]; rfl) rfl ?_
        dsimp only [List.set]
        refine s_goto C 4 dX6_unknown_46 (by decide) ?_
        rw [show unN T mo ln fl t = unN T mo ln fl (t + 1) by rw [unN, hky]; first | (rw [if_pos hkl]; rfl) | rw [if_neg hkl]]
        exact ih4 (t + 1) _ (by omega) (by omega) ⟨_, _, _, _, _, _, _, s, tr, h, tx, rk, sy, hZ, hs0, ⟨_, htr⟩, hh, ⟨_, _, _, _, _, hx⟩, hk, ⟨_, hy⟩, hch⟩ (hF.tr hFy)
      · skip
        have hkl := of_decide_eq_false z37
        refine s_iinc C 43 (nI (unN T mo ln fl t + 1)) dX6_unknown_40 rfl rfl (by rw [← nI_add]; rfl) rfl ?_
        dsimp only [List.set]
        refine s_iinc C 46 (nI (t + 1)) dX6_unknown_43 rfl rfl (by rw [← nI_add]; rfl) rfl ?_
        dsimp only [List.set]
        refine s_goto C 4 dX6_unknown_46 (by decide) ?_
        rw [show (unN T mo ln fl t) + 1 = unN T mo ln fl (t + 1) by rw [unN, hky]; first | (rw [if_pos hkl]; rfl) | rw [if_neg hkl]]
        exact ih4 (t + 1) _ (by omega) (by omega) ⟨_, _, _, _, _, _, _, s, tr, h, tx, rk, sy, hZ, hs0, ⟨_, htr⟩, hh, ⟨_, _, _, _, _, hx⟩, hk, ⟨_, hy⟩, hch⟩ (hF.tr hFy)

set_option maxRecDepth 100000 in
set_option maxHeartbeats 4000000 in
theorem z_hardest {G : mG} {M : mM} {z T mo od ql c n : Nat} {q : Nat → Int32} {ln : Nat → Nat} {fl : Nat → Nat → Int32} {us : Nat → Int32} {hs : Nat → mSt} {g : Nat → Int32} (hz : zR G M z (T, mo, od, ql, q, ln, fl, us) c hs n g) (hT0 : T ≤ 16) : CC G iX6_hardest 0 0 [.ref z] M (fun r M1 => r = some (.int (oI (hdN T mo ln fl T).2)) ∧ zR G M1 z (T, mo, od, ql, q, ln, fl, us) c hs n g ∧ mZ [40, 42] M M1) := by
  refine CC.of rfl (Nat.le_of_ble_eq_true rfl) rfl (fun X C Tr => ?_)
  show V X 0 0 0 [some (.ref z), none, none, none] [] M
  refine s_bipush C 2 (-6) dX6_hardest_0 rfl (by decide) ?_
  refine s_istore_n C 3 dX6_hardest_2 rfl rfl rfl ?_
  dsimp only [List.set]
  refine s_iconst C 4 (nI 0) dX6_hardest_3 rfl (by decide) ?_
  refine s_istore_n C 5 dX6_hardest_4 rfl rfl rfl ?_
  dsimp only [List.set]
  refine s_iconst C 6 (nI 0) dX6_hardest_5 rfl (by decide) ?_
  refine s_istore_n C 7 dX6_hardest_6 rfl rfl rfl ?_
  dsimp only [List.set]
  suffices lp7 : ∀ (fu7 : Nat) (t : Nat) (M9 : mM), T - t < fu7 → t ≤ T → zR G M9 z (T, mo, od, ql, q, ln, fl, us) c hs n g → mZ [40, 42] M M9 → (hdN T mo ln fl t).1 ≤ 24 → V X 0 0 7 [some (.ref z), some (.int (oI (hdN T mo ln fl t).2)), some (.int (nI ((hdN T mo ln fl t).1))), some (.int (nI t))] [] M9 from lp7 (T + 1) 0 _ (by omega) (by omega) hz mZ.rf (Nat.zero_le _)
  intro fu7
  induction fu7 with
  | zero => intro t M9 ht0 ht hz9 hF hhd; omega
  | succ fu7 ih7 =>
    intro t M9 ht0 ht hz9 hF hhd
    have hz9b := hz9
    obtain ⟨rc, rr, rp, y1, y2, y3, y4, s, tr, h, tx, rk, sy, hZ, hs0, ⟨yt, htr⟩, hh, ⟨p, cmd, val, fr, to, hx⟩, hk, ⟨yw, hy⟩, hch⟩ := hz9
    obtain ⟨q9, hq9, hqn9, hsR⟩ := hs0.get
    have hsR0 := hsR
    obtain ⟨la, qa, cap, gg, ad, ifn, hS, hL, hQ, hT, hmo, hod, hql, hA⟩ := hsR
    refine s_iload_n C 8 dX6_hardest_7 rfl rfl ?_
    refine s_aload_n C 9 dX6_hardest_8 rfl rfl ?_
    refine s_getf C 12 dX6_hardest_9 rfl f_X6_10 hZ rfl ?_
    refine s_getf C 15 dX6_hardest_12 rfl f_X6_119 hS rfl ?_
    refine s_invV C 18 0 0 [.int (nI t)] (lR_rv hL) dX6_hardest_15 rfl m_X6_129 (c_size hL) rfl rfl rfl ⟨by decide, by decide⟩ (Nat.le_of_ble_eq_true rfl) (by omega) (by omega) ?_
    rintro _ M1 ⟨rfl, rfl⟩
    dsimp only [Option.toList, List.cons_append, List.nil_append]
    refine s_icmp_geN C 70 21 dX6_hardest_18 (by decide) rfl (by omega) (by omega) (fun z18 => ?_) (fun z18 => ?_)
    · skip
      have ht9 : t = T := by omega
      refine s_iload_n C 71 dX6_hardest_70 rfl rfl ?_
      exact s_iret C dX6_hardest_71 Tr rfl ⟨by rw [ht9], hz9b, hF⟩
    · skip
      refine s_aload_n C 22 dX6_hardest_21 rfl rfl ?_
      refine s_getf C 25 dX6_hardest_22 rfl f_X6_43 hZ rfl ?_
      refine s_aload_n C 26 dX6_hardest_25 rfl rfl ?_
      refine s_getf C 29 dX6_hardest_26 rfl f_X6_10 hZ rfl ?_
      refine s_iload_n C 30 dX6_hardest_29 rfl rfl ?_
      refine s_invV C 33 0 0 [] (yR_rv hy) dX6_hardest_30 rfl m_X6_148 (c_look (t := t) hsR0 hy (by omega)) rfl rfl rfl ⟨by decide, by decide⟩ (Nat.le_of_ble_eq_true rfl) (by omega) (by omega) ?_
      rintro _ M2 ⟨rfl, ks9, kl9, ss9, sl9, rw9, hy9, hbk, hbs, hFy⟩
      dsimp only [Option.toList, List.cons_append, List.nil_append]
      have hZ := hFy.at hZ (by first | (simp; done) | (simp; omega) | (rw [mem_TH]; omega) | (rw [mem_TZ]; omega))
      have hs0 := hs0.at hFy (by first | (simp; done) | (simp; omega) | (rw [mem_TH]; omega) | (rw [mem_TZ]; omega)) (by first | (simp; done) | (simp; omega) | (rw [mem_TH]; omega) | (rw [mem_TZ]; omega)) (fun j hj => by first | (simp; done) | (simp; omega) | (rw [mem_TH]; omega) | (rw [mem_TZ]; omega))
      have htr := htr.at hFy (by first | (simp; done) | (simp; omega) | (rw [mem_TH]; omega) | (rw [mem_TZ]; omega)) (by first | (simp; done) | (simp; omega) | (rw [mem_TH]; omega) | (rw [mem_TZ]; omega)) (fun j hj => by first | (simp; done) | (simp; omega) | (rw [mem_TH]; omega) | (rw [mem_TZ]; omega))
      have hh := hh.at hFy (by first | (simp; done) | (simp; omega) | (rw [mem_TH]; omega) | (rw [mem_TZ]; omega)) (by first | (simp; done) | (simp; omega) | (rw [mem_TH]; omega) | (rw [mem_TZ]; omega)) (by first | (simp; done) | (simp; omega) | (rw [mem_TH]; omega) | (rw [mem_TZ]; omega)) (fun t ht => by rw [mem_TH] at ht; first | (simp; done) | (simp; omega))
      have hx := hx.at hFy (by first | (simp; done) | (simp; omega) | (rw [mem_TH]; omega) | (rw [mem_TZ]; omega)) (by first | (simp; done) | (simp; omega) | (rw [mem_TH]; omega) | (rw [mem_TZ]; omega))
      have hk := hk.at hFy (by first | (simp; done) | (simp; omega) | (rw [mem_TH]; omega) | (rw [mem_TZ]; omega)) (by first | (simp; done) | (simp; omega) | (rw [mem_TH]; omega) | (rw [mem_TZ]; omega)) (by first | (simp; done) | (simp; omega) | (rw [mem_TH]; omega) | (rw [mem_TZ]; omega))
      have hy := hy9
      have hky := kyN_of hbk (hA t (by omega)).2.2.2
      have hsh := shN_of hbs (hA t (by omega)).2.2.2
      have hsR0 := hsR0.at hFy (by simp) (by simp) (by simp) (by simp) (by simp) (by simp)
      obtain ⟨pA, gA, ra, hY, hyx⟩ := hy9
      have hkb9 : kl9 < 100 := by obtain ⟨-, -, -, -, -, h9, -⟩ := hyx; exact h9
      refine s_aload_n C 34 dX6_hardest_33 rfl rfl ?_
      refine s_getf C 37 dX6_hardest_34 rfl f_X6_43 hZ rfl ?_
      refine s_invV C 40 0 0 [] (yR_rv hy) dX6_hardest_37 rfl m_X6_162 (c_hasKey hy) rfl rfl rfl ⟨by decide, by decide⟩ (Nat.le_of_ble_eq_true rfl) (by omega) (by omega) ?_
      rintro _ M3 ⟨rfl, rfl⟩
      dsimp only [Option.toList, List.cons_append, List.nil_append]
      refine s_if_eqB C 64 43 dX6_hardest_40 (by decide) rfl (fun z40 => ?_) (fun z40 => ?_)
      · skip
        have z40 := of_decide_eq_false z40
        have hstep : (hdN T mo ln fl (t + 1)) = (hdN T mo ln fl t) := by rw [hdN, hky]; exact if_neg (by show ¬ (hdN T mo ln fl t).1 < kl9; omega)
        refine s_iinc C 67 (nI (t + 1)) dX6_hardest_64 rfl rfl (by rw [← nI_add]; rfl) rfl ?_
        dsimp only [List.set]
        refine s_goto C 7 dX6_hardest_67 (by decide) ?_
        rw [show (oI (hdN T mo ln fl t).2) = oI (hdN T mo ln fl (t + 1)).2 by rw [hstep]; first | done | rfl, show (hdN T mo ln fl t).1 = (hdN T mo ln fl (t + 1)).1 by rw [hstep]]
        exact ih7 (t + 1) _ (by omega) (by omega) ⟨_, _, _, _, _, _, _, s, tr, h, tx, rk, sy, hZ, hs0, ⟨_, htr⟩, hh, ⟨_, _, _, _, _, hx⟩, hk, ⟨_, hy⟩, hch⟩ (hF.tr hFy) (by rw [hstep]; first | exact hhd | exact hkb)
      · skip
        refine s_aload_n C 44 dX6_hardest_43 rfl rfl ?_
        refine s_getf C 47 dX6_hardest_44 rfl f_X6_43 hZ rfl ?_
        refine s_getf C 50 dX6_hardest_47 rfl f_X6_168 hY rfl ?_
        refine s_iload_n C 51 dX6_hardest_50 rfl rfl ?_
        refine s_icmp_leN C 64 54 dX6_hardest_51 (by decide) rfl (by omega) (by omega) (fun z51 => ?_) (fun z51 => ?_)
        · skip
          have hstep : (hdN T mo ln fl (t + 1)) = (hdN T mo ln fl t) := by rw [hdN, hky]; exact if_neg (by show ¬ (hdN T mo ln fl t).1 < kl9; omega)
          refine s_iinc C 67 (nI (t + 1)) dX6_hardest_64 rfl rfl (by rw [← nI_add]; rfl) rfl ?_
          dsimp only [List.set]
          refine s_goto C 7 dX6_hardest_67 (by decide) ?_
          rw [show (oI (hdN T mo ln fl t).2) = oI (hdN T mo ln fl (t + 1)).2 by rw [hstep]; first | done | rfl, show (hdN T mo ln fl t).1 = (hdN T mo ln fl (t + 1)).1 by rw [hstep]]
          exact ih7 (t + 1) _ (by omega) (by omega) ⟨_, _, _, _, _, _, _, s, tr, h, tx, rk, sy, hZ, hs0, ⟨_, htr⟩, hh, ⟨_, _, _, _, _, hx⟩, hk, ⟨_, hy⟩, hch⟩ (hF.tr hFy) (by rw [hstep]; first | exact hhd | exact hkb)
        · skip
          have hstep : (hdN T mo ln fl (t + 1)) = (kl9, some t) := by rw [hdN, hky]; exact if_pos (by show (hdN T mo ln fl t).1 < kl9; omega)
          have hkb : kl9 ≤ 24 := by rcases hbk with ⟨e, -⟩ | ⟨-, -, hp, -⟩; (· omega); exact (pcB_b (pKb_c hp) (hA t (by omega)).2.2.2).2.2.1
          refine s_aload_n C 55 dX6_hardest_54 rfl rfl ?_
          refine s_getf C 58 dX6_hardest_55 rfl f_X6_43 hZ rfl ?_
          refine s_getf C 61 dX6_hardest_58 rfl f_X6_168 hY rfl ?_
          refine s_istore_n C 62 dX6_hardest_61 rfl rfl rfl ?_
          dsimp only [List.set]
          refine s_iload_n C 63 dX6_hardest_62 rfl rfl ?_
          refine s_istore_n C 64 dX6_hardest_63 rfl rfl rfl ?_
          dsimp only [List.set]
          refine s_iinc C 67 (nI (t + 1)) dX6_hardest_64 rfl rfl (by rw [← nI_add]; rfl) rfl ?_
          dsimp only [List.set]
          refine s_goto C 7 dX6_hardest_67 (by decide) ?_
          rw [show (nI t) = oI (hdN T mo ln fl (t + 1)).2 by rw [hstep]; first | done | rfl, show kl9 = (hdN T mo ln fl (t + 1)).1 by rw [hstep]]
          exact ih7 (t + 1) _ (by omega) (by omega) ⟨_, _, _, _, _, _, _, s, tr, h, tx, rk, sy, hZ, hs0, ⟨_, htr⟩, hh, ⟨_, _, _, _, _, hx⟩, hk, ⟨_, hy⟩, hch⟩ (hF.tr hFy) (by rw [hstep]; first | exact hhd | exact hkb)

set_option maxRecDepth 100000 in
set_option maxHeartbeats 4000000 in
theorem z_studied {G : mG} {M : mM} {z T mo od ql c n : Nat} {q : Nat → Int32} {ln : Nat → Nat} {fl : Nat → Nat → Int32} {us : Nat → Int32} {hs : Nat → mSt} {g : Nat → Int32} {rc : Nat} {rr rp : Nat → Nat} {y1 y2 y3 y4 : Nat} (hz : zA G M z (T, mo, od, ql, q, ln, fl, us) c hs n g rc rr rp y1 y2 y3 y4) {b lb ib n2 m2 w : Nat} {f2 i2 : Nat → Int32} {u2 : Int32} (hOb : M b = some (1, .inl (6, [.ref lb, .ref ib, .int u2]))) (hLb : M lb = some (1, .inr (1, n2, .inl f2))) (hIb : M ib = some (1, .inr (1, m2, .inl i2))) (hw : w ≤ 6) : CC G iX6_studiedNumber 0 0 [.ref z, .ref b, .int (nI w)] M (fun r M1 => r = some (.int (ofN n2 m2 u2 y1 y2 y3 y4 w)) ∧ M = M1) := by
  refine CC.of rfl (Nat.le_of_ble_eq_true rfl) rfl (fun X C Tr => ?_)
  show V X 0 0 0 [some (.ref z), some (.ref b), some (.int (nI w))] [] M
  obtain ⟨s, tr, h, tx, rk, sy, hZ, hs0, ⟨yt, htr⟩, hh, ⟨p, cmd, val, fr, to, hx⟩, hk, ⟨yw, hy⟩, hch⟩ := hz
  have hyc := hy
  obtain ⟨pA, gA, ra, hY, hyx⟩ := hyc
  refine s_iload_n C 1 dX6_studiedNumber_0 rfl rfl ?_
  by_cases w1_0 : w = 0
  · skip
    refine s_tabI C 44 dX6_studiedNumber_1 (off := 43) (by rw [w1_0]; decide) (by rw [w1_0]; decide) (by rw [w1_0]; rfl) (by decide) ?_
    refine s_aload_n C 45 dX6_studiedNumber_44 rfl rfl ?_
    refine s_getf C 48 dX6_studiedNumber_45 rfl f_X6_144 hOb rfl ?_
    refine s_alen C 49 dX6_studiedNumber_48 rfl hLb (by decide) ?_
    exact s_iret C dX6_studiedNumber_49 Tr rfl ⟨by simp [ofN, *] <;> first | omega | (intros; omega), rfl⟩
  by_cases w1_1 : w = 1
  · skip
    refine s_tabI C 50 dX6_studiedNumber_1 (off := 49) (by rw [w1_1]; decide) (by rw [w1_1]; decide) (by rw [w1_1]; rfl) (by decide) ?_
    refine s_aload_n C 51 dX6_studiedNumber_50 rfl rfl ?_
    refine s_getf C 54 dX6_studiedNumber_51 rfl f_X6_156 hOb rfl ?_
    refine s_alen C 55 dX6_studiedNumber_54 rfl hIb (by decide) ?_
    exact s_iret C dX6_studiedNumber_55 Tr rfl ⟨by simp [ofN, *] <;> first | omega | (intros; omega), rfl⟩
  by_cases w1_2 : w = 2
  · skip
    refine s_tabI C 56 dX6_studiedNumber_1 (off := 55) (by rw [w1_2]; decide) (by rw [w1_2]; decide) (by rw [w1_2]; rfl) (by decide) ?_
    refine s_aload_n C 57 dX6_studiedNumber_56 rfl rfl ?_
    refine s_getf C 60 dX6_studiedNumber_57 rfl f_X6_159 hOb rfl ?_
    exact s_iret C dX6_studiedNumber_60 Tr rfl ⟨by simp [ofN, *] <;> first | omega | (intros; omega), rfl⟩
  by_cases w1_3 : w = 3
  · skip
    refine s_tabI C 61 dX6_studiedNumber_1 (off := 60) (by rw [w1_3]; decide) (by rw [w1_3]; decide) (by rw [w1_3]; rfl) (by decide) ?_
    refine s_aload_n C 62 dX6_studiedNumber_61 rfl rfl ?_
    refine s_getf C 65 dX6_studiedNumber_62 rfl f_X6_43 hZ rfl ?_
    refine s_invV C 68 0 0 [] (yR_rv hy) dX6_studiedNumber_65 rfl m_X6_162 (c_hasKey hy) rfl rfl rfl ⟨by decide, by decide⟩ (Nat.le_of_ble_eq_true rfl) (by omega) (by omega) ?_
    rintro _ M1 ⟨rfl, rfl⟩
    dsimp only [Option.toList, List.cons_append, List.nil_append]
    refine s_if_eqB C 81 71 dX6_studiedNumber_68 (by decide) rfl (fun z68 => ?_) (fun z68 => ?_)
    · skip
      have hd9 := of_decide_eq_false z68
      refine s_bipush C 83 (-6) dX6_studiedNumber_81 rfl (by decide) ?_
      exact s_iret C dX6_studiedNumber_83 Tr rfl ⟨by simp [ofN, *] <;> first | omega | (intros; omega), rfl⟩
    · skip
      have hd9 := of_decide_eq_true z68
      refine s_aload_n C 72 dX6_studiedNumber_71 rfl rfl ?_
      refine s_getf C 75 dX6_studiedNumber_72 rfl f_X6_43 hZ rfl ?_
      refine s_getf C 78 dX6_studiedNumber_75 rfl f_X6_165 hY rfl ?_
      refine s_goto C 83 dX6_studiedNumber_78 (by decide) ?_
      exact s_iret C dX6_studiedNumber_83 Tr rfl ⟨by simp [ofN, *] <;> first | omega | (intros; omega), rfl⟩
  by_cases w1_4 : w = 4
  · skip
    refine s_tabI C 84 dX6_studiedNumber_1 (off := 83) (by rw [w1_4]; decide) (by rw [w1_4]; decide) (by rw [w1_4]; rfl) (by decide) ?_
    refine s_aload_n C 85 dX6_studiedNumber_84 rfl rfl ?_
    refine s_getf C 88 dX6_studiedNumber_85 rfl f_X6_43 hZ rfl ?_
    refine s_invV C 91 0 0 [] (yR_rv hy) dX6_studiedNumber_88 rfl m_X6_162 (c_hasKey hy) rfl rfl rfl ⟨by decide, by decide⟩ (Nat.le_of_ble_eq_true rfl) (by omega) (by omega) ?_
    rintro _ M2 ⟨rfl, rfl⟩
    dsimp only [Option.toList, List.cons_append, List.nil_append]
    refine s_if_eqB C 104 94 dX6_studiedNumber_91 (by decide) rfl (fun z91 => ?_) (fun z91 => ?_)
    · skip
      have hd9 := of_decide_eq_false z91
      refine s_bipush C 106 (-6) dX6_studiedNumber_104 rfl (by decide) ?_
      exact s_iret C dX6_studiedNumber_106 Tr rfl ⟨by simp [ofN, *] <;> first | omega | (intros; omega), rfl⟩
    · skip
      have hd9 := of_decide_eq_true z91
      refine s_aload_n C 95 dX6_studiedNumber_94 rfl rfl ?_
      refine s_getf C 98 dX6_studiedNumber_95 rfl f_X6_43 hZ rfl ?_
      refine s_getf C 101 dX6_studiedNumber_98 rfl f_X6_168 hY rfl ?_
      refine s_goto C 106 dX6_studiedNumber_101 (by decide) ?_
      exact s_iret C dX6_studiedNumber_106 Tr rfl ⟨by simp [ofN, *] <;> first | omega | (intros; omega), rfl⟩
  by_cases w1_5 : w = 5
  · skip
    refine s_tabI C 107 dX6_studiedNumber_1 (off := 106) (by rw [w1_5]; decide) (by rw [w1_5]; decide) (by rw [w1_5]; rfl) (by decide) ?_
    refine s_aload_n C 108 dX6_studiedNumber_107 rfl rfl ?_
    refine s_getf C 111 dX6_studiedNumber_108 rfl f_X6_43 hZ rfl ?_
    refine s_invV C 114 0 0 [] (yR_rv hy) dX6_studiedNumber_111 rfl m_X6_171 (c_hasShortcut hy) rfl rfl rfl ⟨by decide, by decide⟩ (Nat.le_of_ble_eq_true rfl) (by omega) (by omega) ?_
    rintro _ M3 ⟨rfl, rfl⟩
    dsimp only [Option.toList, List.cons_append, List.nil_append]
    refine s_if_eqB C 127 117 dX6_studiedNumber_114 (by decide) rfl (fun z114 => ?_) (fun z114 => ?_)
    · skip
      have hd9 := of_decide_eq_false z114
      refine s_bipush C 129 (-6) dX6_studiedNumber_127 rfl (by decide) ?_
      exact s_iret C dX6_studiedNumber_129 Tr rfl ⟨by simp [ofN, *] <;> first | omega | (intros; omega), rfl⟩
    · skip
      have hd9 := of_decide_eq_true z114
      refine s_aload_n C 118 dX6_studiedNumber_117 rfl rfl ?_
      refine s_getf C 121 dX6_studiedNumber_118 rfl f_X6_43 hZ rfl ?_
      refine s_getf C 124 dX6_studiedNumber_121 rfl f_X6_174 hY rfl ?_
      refine s_goto C 129 dX6_studiedNumber_124 (by decide) ?_
      exact s_iret C dX6_studiedNumber_129 Tr rfl ⟨by simp [ofN, *] <;> first | omega | (intros; omega), rfl⟩
  by_cases w1_6 : w = 6
  · skip
    refine s_tabI C 130 dX6_studiedNumber_1 (off := 129) (by rw [w1_6]; decide) (by rw [w1_6]; decide) (by rw [w1_6]; rfl) (by decide) ?_
    refine s_aload_n C 131 dX6_studiedNumber_130 rfl rfl ?_
    refine s_getf C 134 dX6_studiedNumber_131 rfl f_X6_43 hZ rfl ?_
    refine s_invV C 137 0 0 [] (yR_rv hy) dX6_studiedNumber_134 rfl m_X6_171 (c_hasShortcut hy) rfl rfl rfl ⟨by decide, by decide⟩ (Nat.le_of_ble_eq_true rfl) (by omega) (by omega) ?_
    rintro _ M4 ⟨rfl, rfl⟩
    dsimp only [Option.toList, List.cons_append, List.nil_append]
    refine s_if_eqB C 150 140 dX6_studiedNumber_137 (by decide) rfl (fun z137 => ?_) (fun z137 => ?_)
    · skip
      have hd9 := of_decide_eq_false z137
      refine s_bipush C 152 (-6) dX6_studiedNumber_150 rfl (by decide) ?_
      exact s_iret C dX6_studiedNumber_152 Tr rfl ⟨by simp [ofN, *] <;> first | omega | (intros; omega), rfl⟩
    · skip
      have hd9 := of_decide_eq_true z137
      refine s_aload_n C 141 dX6_studiedNumber_140 rfl rfl ?_
      refine s_getf C 144 dX6_studiedNumber_141 rfl f_X6_43 hZ rfl ?_
      refine s_getf C 147 dX6_studiedNumber_144 rfl f_X6_177 hY rfl ?_
      refine s_goto C 152 dX6_studiedNumber_147 (by decide) ?_
      exact s_iret C dX6_studiedNumber_152 Tr rfl ⟨by simp [ofN, *] <;> first | omega | (intros; omega), rfl⟩
  refine s_tabO C 153 dX6_studiedNumber_1 (by rw [nI_toInt (by omega)]; omega) (by decide) ?_
  refine s_bipush C 155 (-2) dX6_studiedNumber_153 rfl (by decide) ?_
  exact s_iret C dX6_studiedNumber_155 Tr rfl (by exfalso; omega)

set_option maxRecDepth 100000 in
set_option maxHeartbeats 4000000 in
theorem z_of {G : mG} {M : mM} {z T mo od ql c n : Nat} {q : Nat → Int32} {ln : Nat → Nat} {fl : Nat → Nat → Int32} {us : Nat → Int32} {hs : Nat → mSt} {g : Nat → Int32} (hz : zR G M z (T, mo, od, ql, q, ln, fl, us) c hs n g) {a b : Int32} : CC G iX6_of 0 0 [.ref z, .int a, .int b] M (fun r M1 => r = some (.int (if (isIx a T) = true then (if (isIx b 7) = true then (ofN (ln a.toNatClampNeg) (1 + cnB (fl a.toNatClampNeg) (ln a.toNatClampNeg)) (us a.toNatClampNeg) (kyN T mo ln fl a.toNatClampNeg).1 (kyN T mo ln fl a.toNatClampNeg).2 (shN T mo od ln fl us a.toNatClampNeg).1 (shN T mo od ln fl us a.toNatClampNeg).2 b.toNatClampNeg) else -2) else -1)) ∧ zR G M1 z (T, mo, od, ql, q, ln, fl, us) c hs n g ∧ mZ [40, 42] M M1) := by
  refine CC.of rfl (Nat.le_of_ble_eq_true rfl) rfl (fun X C Tr => ?_)
  show V X 0 0 0 [some (.ref z), some (.int a), some (.int b)] [] M
  obtain ⟨rc, rr, rp, y1, y2, y3, y4, s, tr, h, tx, rk, sy, hZ, hs0, ⟨yt, htr⟩, hh, ⟨p, cmd, val, fr, to, hx⟩, hk, ⟨yw, hy⟩, hch⟩ := hz
  obtain ⟨q9, hq9, hqn9, hsR⟩ := hs0.get
  have hsR0 := hsR
  obtain ⟨la, qa, cap, gg, ad, ifn, hS, hL, hQ, hT, hmo, hod, hql, hA⟩ := hsR
  refine s_aload_n C 1 dX6_of_0 rfl rfl ?_
  refine s_getf C 4 dX6_of_1 rfl f_X6_10 hZ rfl ?_
  refine s_iload_n C 5 dX6_of_4 rfl rfl ?_
  refine s_invV C 8 0 0 [] (sR_rv hsR0) dX6_of_5 rfl m_X6_132 (c_has (x := a) hsR0) rfl rfl rfl ⟨by decide, by decide⟩ (Nat.le_of_ble_eq_true rfl) (by omega) (by omega) ?_
  rintro _ M1 ⟨rfl, rfl⟩
  dsimp only [Option.toList, List.cons_append, List.nil_append]
  refine s_if_neB C 13 11 dX6_of_8 (by decide) rfl (fun z8 => ?_) (fun z8 => ?_)
  · skip
    obtain ⟨t, ht9, hqt⟩ := isIx_of (x := a) (c := T) z8 (by omega)
    subst hqt
    refine s_iload_n C 14 dX6_of_13 rfl rfl ?_
    refine s_if_lt C 23 17 dX6_of_14 (by decide) rfl (fun z14 => ?_) (fun z14 => ?_)
    · skip
      have hz8 : isIx b 7 = false := decide_eq_false (fun q => q.1 z14)
      refine s_bipush C 25 (-2) dX6_of_23 rfl (by decide) ?_
      exact s_iret C dX6_of_25 Tr rfl ⟨by rw [isIx_nI ht9 (by omega), hz8]; rfl, ⟨_, _, _, _, _, _, _, s, tr, h, tx, rk, sy, hZ, hs0, ⟨_, htr⟩, hh, ⟨_, _, _, _, _, hx⟩, hk, ⟨_, hy⟩, hch⟩, mZ.rf⟩
    · skip
      refine s_iload_n C 18 dX6_of_17 rfl rfl ?_
      refine s_bipush C 20 (nI 6) dX6_of_18 rfl (by decide) ?_
      refine s_icmp_le C 26 23 dX6_of_20 (by decide) rfl (fun z20 => ?_) (fun z20 => ?_)
      · skip
        obtain ⟨w, hw9, hqw⟩ := isIx_of (x := b) (c := 7) (by unfold isIx; refine decide_eq_true ⟨z14, fun q => ?_⟩; rw [Int32.le_iff_toInt_le, nI_toInt (by omega)] at q; rw [Int32.le_iff_toInt_le, nI_toInt (by omega)] at z20; omega) (by omega)
        subst hqw
        refine s_aload_n C 27 dX6_of_26 rfl rfl ?_
        refine s_getf C 30 dX6_of_27 rfl f_X6_43 hZ rfl ?_
        refine s_aload_n C 31 dX6_of_30 rfl rfl ?_
        refine s_getf C 34 dX6_of_31 rfl f_X6_10 hZ rfl ?_
        refine s_iload_n C 35 dX6_of_34 rfl rfl ?_
        refine s_invV C 38 0 0 [] (yR_rv hy) dX6_of_35 rfl m_X6_148 (c_look (t := t) hsR0 hy (by omega)) rfl rfl rfl ⟨by decide, by decide⟩ (Nat.le_of_ble_eq_true rfl) (by omega) (by omega) ?_
        rintro _ M2 ⟨rfl, ks9, kl9, ss9, sl9, rw9, hy9, hbk, hbs, hFy⟩
        dsimp only [Option.toList, List.cons_append, List.nil_append]
        have hZ := hFy.at hZ (by first | (simp; done) | (simp; omega) | (rw [mem_TH]; omega) | (rw [mem_TZ]; omega))
        have hs0 := hs0.at hFy (by first | (simp; done) | (simp; omega) | (rw [mem_TH]; omega) | (rw [mem_TZ]; omega)) (by first | (simp; done) | (simp; omega) | (rw [mem_TH]; omega) | (rw [mem_TZ]; omega)) (fun j hj => by first | (simp; done) | (simp; omega) | (rw [mem_TH]; omega) | (rw [mem_TZ]; omega))
        have htr := htr.at hFy (by first | (simp; done) | (simp; omega) | (rw [mem_TH]; omega) | (rw [mem_TZ]; omega)) (by first | (simp; done) | (simp; omega) | (rw [mem_TH]; omega) | (rw [mem_TZ]; omega)) (fun j hj => by first | (simp; done) | (simp; omega) | (rw [mem_TH]; omega) | (rw [mem_TZ]; omega))
        have hh := hh.at hFy (by first | (simp; done) | (simp; omega) | (rw [mem_TH]; omega) | (rw [mem_TZ]; omega)) (by first | (simp; done) | (simp; omega) | (rw [mem_TH]; omega) | (rw [mem_TZ]; omega)) (by first | (simp; done) | (simp; omega) | (rw [mem_TH]; omega) | (rw [mem_TZ]; omega)) (fun t ht => by rw [mem_TH] at ht; first | (simp; done) | (simp; omega))
        have hx := hx.at hFy (by first | (simp; done) | (simp; omega) | (rw [mem_TH]; omega) | (rw [mem_TZ]; omega)) (by first | (simp; done) | (simp; omega) | (rw [mem_TH]; omega) | (rw [mem_TZ]; omega))
        have hk := hk.at hFy (by first | (simp; done) | (simp; omega) | (rw [mem_TH]; omega) | (rw [mem_TZ]; omega)) (by first | (simp; done) | (simp; omega) | (rw [mem_TH]; omega) | (rw [mem_TZ]; omega)) (by first | (simp; done) | (simp; omega) | (rw [mem_TH]; omega) | (rw [mem_TZ]; omega))
        have hy := hy9
        have hky := kyN_of hbk (hA t (by omega)).2.2.2
        have hsh := shN_of hbs (hA t (by omega)).2.2.2
        have hsR0 := hsR0.at hFy (by simp) (by simp) (by simp) (by simp) (by simp) (by simp)
        obtain ⟨pA, gA, ra, hY, hyx⟩ := hy9
        obtain ⟨la, qa, cap, gg, ad, ifn, hS, hL, hQ, hT, hmo, hod, hql, hA⟩ := hsR0
        have hza : zA G M2 z (T, mo, od, ql, q, ln, fl, us) c hs n g rc rr rp ks9 kl9 ss9 sl9 := ⟨s, tr, h, tx, rk, sy, hZ, hs0, ⟨_, htr⟩, hh, ⟨_, _, _, _, _, hx⟩, hk, ⟨_, hy⟩, hch⟩
        refine s_aload_n C 39 dX6_of_38 rfl rfl ?_
        refine s_aload_n C 40 dX6_of_39 rfl rfl ?_
        refine s_getf C 43 dX6_of_40 rfl f_X6_10 hZ rfl ?_
        refine s_getf C 46 dX6_of_43 rfl f_X6_119 hS rfl ?_
        refine s_iload_n C 47 dX6_of_46 rfl rfl ?_
        refine s_invV C 50 0 0 [.ref z] (lR_rv hL) dX6_of_47 rfl m_X6_139 (c_get (i := t) hL (by omega) (hA t (by omega)).1) rfl rfl rfl ⟨by decide, by decide⟩ (Nat.le_of_ble_eq_true rfl) (by omega) (by omega) ?_
        rintro _ M3 ⟨rfl, rfl⟩
        dsimp only [Option.toList, List.cons_append, List.nil_append]
        obtain ⟨ld, id, hOd, hLd, hId⟩ := (hA t (by omega)).2.1
        have hVd := (hA t (by omega)).2.2.2
        have hnd : ln t ≤ 24 := hVd.2.1
        have hcd := cnB_le (f := fl t) (ln t)
        refine s_castT C 53 dX6_of_50 rfl hOd rfl k_X6_142 ?_
        refine s_iload_n C 54 dX6_of_53 rfl rfl ?_
        refine s_invV C 57 0 0 [] (mRv_of hZ rfl) dX6_of_54 rfl m_X6_152 (z_studied hza hOd hLd hId (by omega)) rfl rfl rfl ⟨by decide, by decide⟩ (Nat.le_of_ble_eq_true rfl) (by omega) (by omega) ?_
        rintro _ M4 ⟨rfl, rfl⟩
        dsimp only [Option.toList, List.cons_append, List.nil_append]
        exact s_iret C dX6_of_57 Tr rfl ⟨by rw [isIx_nI ht9 (by omega), if_pos rfl, isIx_nI hw9 (by omega), if_pos rfl, nI_clamp (by omega), nI_clamp (by omega), hky, hsh], hza.R, hFy⟩
      · skip
        have hz8 : isIx b 7 = false := decide_eq_false (fun q => q.2 (by rw [Int32.le_iff_toInt_le] at z20 ⊢; rw [nI_toInt (by omega)] at z20 ⊢; omega))
        refine s_bipush C 25 (-2) dX6_of_23 rfl (by decide) ?_
        exact s_iret C dX6_of_25 Tr rfl ⟨by rw [isIx_nI ht9 (by omega), hz8]; rfl, ⟨_, _, _, _, _, _, _, s, tr, h, tx, rk, sy, hZ, hs0, ⟨_, htr⟩, hh, ⟨_, _, _, _, _, hx⟩, hk, ⟨_, hy⟩, hch⟩, mZ.rf⟩
  · skip
    have hz9 := z8
    refine s_iconst C 12 (-1) dX6_of_11 rfl (by decide) ?_
    exact s_iret C dX6_of_12 Tr rfl ⟨by rw [hz9]; rfl, ⟨_, _, _, _, _, _, _, s, tr, h, tx, rk, sy, hZ, hs0, ⟨_, htr⟩, hh, ⟨_, _, _, _, _, hx⟩, hk, ⟨_, hy⟩, hch⟩, mZ.rf⟩

set_option maxRecDepth 100000 in
set_option maxHeartbeats 4000000 in
theorem z_dropIf {G : mG} {M : mM} {z T mo od ql c n : Nat} {q : Nat → Int32} {ln : Nat → Nat} {fl : Nat → Nat → Int32} {us : Nat → Int32} {hs : Nat → mSt} {g : Nat → Int32} (hz : zR G M z (T, mo, od, ql, q, ln, fl, us) c hs n g) {a : Int32} : CC G iX6_dropIfThere 0 0 [.ref z, .int a] M (fun r M1 => r = some (.int (mB (isIx a T))) ∧ zR G M1 z (if isIx a T = true then stDrop T mo od ql q ln fl us a.toNatClampNeg else (T, mo, od, ql, q, ln, fl, us)) c hs n g ∧ mZ [101 + 10 * 0, 102 + 10 * 0] M M1) := by
  refine CC.of rfl (Nat.le_of_ble_eq_true rfl) rfl (fun X C Tr => ?_)
  show V X 0 0 0 [some (.ref z), some (.int a)] [] M
  obtain ⟨rc, rr, rp, y1, y2, y3, y4, s, tr, h, tx, rk, sy, hZ, hs0, ⟨yt, htr⟩, hh, ⟨p, cmd, val, fr, to, hx⟩, hk, ⟨yw, hy⟩, hch⟩ := hz
  obtain ⟨q9, hq9, hqn9, hsR⟩ := hs0.get
  have hsR0 := hsR
  obtain ⟨la, qa, cap, gg, ad, ifn, hS, hL, hQ, hT, hmo, hod, hql, hA⟩ := hsR
  refine s_aload_n C 1 dX6_dropIfThere_0 rfl rfl ?_
  refine s_getf C 4 dX6_dropIfThere_1 rfl f_X6_10 hZ rfl ?_
  refine s_iload_n C 5 dX6_dropIfThere_4 rfl rfl ?_
  refine s_invV C 8 0 0 [] (sR_rv hsR0) dX6_dropIfThere_5 rfl m_X6_132 (c_has (x := a) hsR0) rfl rfl rfl ⟨by decide, by decide⟩ (Nat.le_of_ble_eq_true rfl) (by omega) (by omega) ?_
  rintro _ M1 ⟨rfl, rfl⟩
  dsimp only [Option.toList, List.cons_append, List.nil_append]
  refine s_if_neB C 13 11 dX6_dropIfThere_8 (by decide) rfl (fun z8 => ?_) (fun z8 => ?_)
  · skip
    obtain ⟨t, ht9, hqt⟩ := isIx_of (x := a) (c := T) z8 (by omega)
    subst hqt
    refine s_aload_n C 14 dX6_dropIfThere_13 rfl rfl ?_
    refine s_getf C 17 dX6_dropIfThere_14 rfl f_X6_10 hZ rfl ?_
    refine s_getf C 20 dX6_dropIfThere_17 rfl f_X6_119 hS rfl ?_
    refine s_iload_n C 21 dX6_dropIfThere_20 rfl rfl ?_
    have hTi : ∀ k, k < T → ∀ y, gg k = some y → ∃ fs, M y = some (1, .inl (6, fs)) := fun k hk y hy => by rw [(hA k hk).1] at hy; cases hy; obtain ⟨l9, i9, h9, -⟩ := (hA k hk).2.1; exact ⟨_, h9⟩
    refine s_invV C 24 0 0 [] (lR_rv hL) dX6_dropIfThere_21 rfl m_X6_135 (c_remove (i := t) hL (by decide) (by decide) (by decide) (by decide) (by decide) ht9 (hA t ht9).1 hTi) rfl rfl rfl ⟨by decide, by decide⟩ (Nat.le_of_ble_eq_true rfl) (by omega) (by omega) ?_
    rintro _ M2 ⟨rfl, g2, hL2, hg2, hFr⟩
    dsimp only [Option.toList, List.cons_append, List.nil_append]
    have hs9 : sS G M2 0 s (stDrop T mo od ql q ln fl us t) := sS.mk hq9 hqn9 ⟨la, qa, cap, g2, dpF ad t, dpF ifn t, hFr.at hS (by simp), hL2, hFr.at hQ (by simp), by omega, hmo, hod, hql, fun i hi => by unfold dpF; rw [hg2 i hi]; split; (· exact ⟨(hA i (by omega)).1, (hA i (by omega)).2.1.at hFr (by simp), (hA i (by omega)).2.2⟩); exact ⟨(hA (i + 1) (by omega)).1, (hA (i + 1) (by omega)).2.1.at hFr (by simp), (hA (i + 1) (by omega)).2.2⟩⟩
    have hZ := hFr.at hZ (by first | (simp; done) | (simp; omega) | (rw [mem_TH]; omega) | (rw [mem_TZ]; omega))
    have htr := htr.at hFr (by first | (simp; done) | (simp; omega) | (rw [mem_TH]; omega) | (rw [mem_TZ]; omega)) (by first | (simp; done) | (simp; omega) | (rw [mem_TH]; omega) | (rw [mem_TZ]; omega)) (fun j hj => by first | (simp; done) | (simp; omega) | (rw [mem_TH]; omega) | (rw [mem_TZ]; omega))
    have hh := hh.at hFr (by first | (simp; done) | (simp; omega) | (rw [mem_TH]; omega) | (rw [mem_TZ]; omega)) (by first | (simp; done) | (simp; omega) | (rw [mem_TH]; omega) | (rw [mem_TZ]; omega)) (by first | (simp; done) | (simp; omega) | (rw [mem_TH]; omega) | (rw [mem_TZ]; omega)) (fun t ht => by rw [mem_TH] at ht; first | (simp; done) | (simp; omega))
    have hx := hx.at hFr (by first | (simp; done) | (simp; omega) | (rw [mem_TH]; omega) | (rw [mem_TZ]; omega)) (by first | (simp; done) | (simp; omega) | (rw [mem_TH]; omega) | (rw [mem_TZ]; omega))
    have hk := hk.at hFr (by first | (simp; done) | (simp; omega) | (rw [mem_TH]; omega) | (rw [mem_TZ]; omega)) (by first | (simp; done) | (simp; omega) | (rw [mem_TH]; omega) | (rw [mem_TZ]; omega)) (by first | (simp; done) | (simp; omega) | (rw [mem_TH]; omega) | (rw [mem_TZ]; omega))
    have hy := hy.at hFr (by first | (simp; done) | (simp; omega) | (rw [mem_TH]; omega) | (rw [mem_TZ]; omega)) (by first | (simp; done) | (simp; omega) | (rw [mem_TH]; omega) | (rw [mem_TZ]; omega)) (by first | (simp; done) | (simp; omega) | (rw [mem_TH]; omega) | (rw [mem_TZ]; omega))
    refine s_pop C 25 dX6_dropIfThere_24 rfl rfl ?_
    refine s_iconst C 26 (nI 1) dX6_dropIfThere_25 rfl (by decide) ?_
    exact s_zret C dX6_dropIfThere_26 Tr rfl (by decide) ⟨rT (isIx_nI ht9 (by omega)), by rw [isIx_nI ht9 (by omega), if_pos rfl, nI_clamp (by omega)]; exact ⟨_, _, _, _, _, _, _, s, tr, h, tx, rk, sy, hZ, hs9, ⟨_, htr⟩, hh, ⟨_, _, _, _, _, hx⟩, hk, ⟨_, hy⟩, hch⟩, hFr⟩
  · skip
    refine s_iconst C 12 (nI 0) dX6_dropIfThere_11 rfl (by decide) ?_
    exact s_zret C dX6_dropIfThere_12 Tr rfl (by decide) ⟨rF z8, by rw [z8]; exact ⟨_, _, _, _, _, _, _, s, tr, h, tx, rk, sy, hZ, hs0, ⟨_, htr⟩, hh, ⟨_, _, _, _, _, hx⟩, hk, ⟨_, hy⟩, hch⟩, mZ.rf⟩

set_option maxRecDepth 100000 in
set_option maxHeartbeats 4000000 in
theorem z_drop {G : mG} {M : mM} {z T mo od ql c n : Nat} {q : Nat → Int32} {ln : Nat → Nat} {fl : Nat → Nat → Int32} {us : Nat → Int32} {hs : Nat → mSt} {g : Nat → Int32} (hz : zR G M z (T, mo, od, ql, q, ln, fl, us) c hs n g) {a : Int32} : CC G iX6_drop 16 352 [.ref z, .int a] M (fun r M1 => r = some (.int (if isIx a T = true then nI (T - 1) else -1)) ∧ zR G M1 z (if isIx a T = true then stDrop T mo od ql q ln fl us a.toNatClampNeg else (T, mo, od, ql, q, ln, fl, us)) (if isIx a T = true then min (c + 1) 6 else c) (if isIx a T = true then hPush (T, mo, od, ql, q, ln, fl, us) hs else hs) n g ∧ mZ TZ M M1) := by
  refine CC.of rfl (Nat.le_of_ble_eq_true rfl) rfl (fun X C Tr => ?_)
  show V X 16 352 0 [some (.ref z), some (.int a)] [] M
  obtain ⟨rc, rr, rp, y1, y2, y3, y4, s, tr, h, tx, rk, sy, hZ, hs0, ⟨yt, htr⟩, hh, ⟨p, cmd, val, fr, to, hx⟩, hk, ⟨yw, hy⟩, hch⟩ := hz
  obtain ⟨q9, hq9, hqn9, hsR⟩ := hs0.get
  have hsR0 := hsR
  obtain ⟨la, qa, cap, gg, ad, ifn, hS, hL, hQ, hT, hmo, hod, hql, hA⟩ := hsR
  refine s_aload_n C 1 dX6_drop_0 rfl rfl ?_
  refine s_getf C 4 dX6_drop_1 rfl f_X6_10 hZ rfl ?_
  refine s_iload_n C 5 dX6_drop_4 rfl rfl ?_
  refine s_invV C 8 16 352 [] (sR_rv hsR0) dX6_drop_5 rfl m_X6_132 (c_has (x := a) hsR0) rfl rfl rfl ⟨by decide, by decide⟩ (Nat.le_of_ble_eq_true rfl) (by omega) (by omega) ?_
  rintro _ M1 ⟨rfl, rfl⟩
  dsimp only [Option.toList, List.cons_append, List.nil_append]
  refine s_if_neB C 13 11 dX6_drop_8 (by decide) rfl (fun z8 => ?_) (fun z8 => ?_)
  · skip
    obtain ⟨t, ht9, hqt⟩ := isIx_of (x := a) (c := T) z8 (by omega)
    subst hqt
    refine s_aload_n C 14 dX6_drop_13 rfl rfl ?_
    refine s_getf C 17 dX6_drop_14 rfl f_X6_22 hZ rfl ?_
    refine s_aload_n C 18 dX6_drop_17 rfl rfl ?_
    refine s_getf C 21 dX6_drop_18 rfl f_X6_10 hZ rfl ?_
    refine s_invV C 24 0 0 [] (hR_rv hh) dX6_drop_21 rfl m_X6_62 (c_save hh hs0 (by omega)) rfl rfl rfl ⟨by decide, by decide⟩ (Nat.le_of_ble_eq_true rfl) (by omega) (by omega) ?_
    rintro _ M2 ⟨rfl, hh9, hs9, hFh⟩
    dsimp only [Option.toList, List.cons_append, List.nil_append]
    have hZ := hFh.at hZ (by first | (simp; done) | (simp; omega) | (rw [mem_TH]; omega) | (rw [mem_TZ]; omega))
    have htr := htr.at hFh (by first | (simp; done) | (simp; omega) | (rw [mem_TH]; omega) | (rw [mem_TZ]; omega)) (by first | (simp; done) | (simp; omega) | (rw [mem_TH]; omega) | (rw [mem_TZ]; omega)) (fun j hj => by first | (simp; done) | (simp; omega) | (rw [mem_TH]; omega) | (rw [mem_TZ]; omega))
    have hx := hx.at hFh (by first | (simp; done) | (simp; omega) | (rw [mem_TH]; omega) | (rw [mem_TZ]; omega)) (by first | (simp; done) | (simp; omega) | (rw [mem_TH]; omega) | (rw [mem_TZ]; omega))
    have hk := hk.at hFh (by first | (simp; done) | (simp; omega) | (rw [mem_TH]; omega) | (rw [mem_TZ]; omega)) (by first | (simp; done) | (simp; omega) | (rw [mem_TH]; omega) | (rw [mem_TZ]; omega)) (by first | (simp; done) | (simp; omega) | (rw [mem_TH]; omega) | (rw [mem_TZ]; omega))
    have hy := hy.at hFh (by first | (simp; done) | (simp; omega) | (rw [mem_TH]; omega) | (rw [mem_TZ]; omega)) (by first | (simp; done) | (simp; omega) | (rw [mem_TH]; omega) | (rw [mem_TZ]; omega)) (by first | (simp; done) | (simp; omega) | (rw [mem_TH]; omega) | (rw [mem_TZ]; omega))
    have hh := hh9
    have hs0 := hs9
    obtain ⟨q9, hq9, hqn9, hsR⟩ := hs0.get
    have hsR0 := hsR
    obtain ⟨la, qa, cap, gg, ad, ifn, hS, hL, hQ, hT, hmo, hod, hql, hA⟩ := hsR
    have hF := hFh.mono (T' := TZ) (fun t ht => by rw [mem_TH] at ht; rw [mem_TZ]; omega)
    have hz7 : zR G M2 z (T, mo, od, ql, q, ln, fl, us) (min (c + 1) 6) (hPush (T, mo, od, ql, q, ln, fl, us) hs) n g := ⟨_, _, _, _, _, _, _, s, tr, h, tx, rk, sy, hZ, hs0, ⟨_, htr⟩, hh, ⟨_, _, _, _, _, hx⟩, hk, ⟨_, hy⟩, hch⟩
    refine s_aload_n C 25 dX6_drop_24 rfl rfl ?_
    refine s_iload_n C 26 dX6_drop_25 rfl rfl ?_
    refine s_invV C 29 0 0 [] (zR_rv hz7) dX6_drop_26 rfl m_X6_93 (z_dropIf hz7) rfl rfl rfl ⟨by decide, by decide⟩ (Nat.le_of_ble_eq_true rfl) (by omega) (by omega) ?_
    rintro _ M3 ⟨rfl, hz8, hFr⟩
    dsimp only [Option.toList, List.cons_append, List.nil_append]
    rw [isIx_nI ht9 (by omega), if_pos rfl, nI_clamp (by omega)] at hz8
    have hz8b := hz8
    have hF := hF.tr (hFr.mono (fun t ht => by first | (rw [mem_TH] at ht; rw [mem_TZ]; omega) | (simp at ht; done) | (rw [mem_TZ]; simp at ht; omega)))
    obtain ⟨rc, rr, rp, y1, y2, y3, y4, s, tr, h, tx, rk, sy, hZ, hs0, ⟨yt, htr⟩, hh, ⟨p, cmd, val, fr, to, hx⟩, hk, ⟨yw, hy⟩, hch⟩ := hz8
    obtain ⟨q9, hq9, hqn9, hsR⟩ := hs0.get
    have hsR0 := hsR
    obtain ⟨la, qa, cap, gg, ad, ifn, hS, hL, hQ, hT, hmo, hod, hql, hA⟩ := hsR
    refine s_pop C 30 dX6_drop_29 rfl rfl ?_
    refine s_aload_n C 31 dX6_drop_30 rfl rfl ?_
    refine s_getf C 34 dX6_drop_31 rfl f_X6_10 hZ rfl ?_
    refine s_getf C 37 dX6_drop_34 rfl f_X6_119 hS rfl ?_
    refine s_invV C 40 0 0 [] (lR_rv hL) dX6_drop_37 rfl m_X6_129 (c_size hL) rfl rfl rfl ⟨by decide, by decide⟩ (Nat.le_of_ble_eq_true rfl) (by omega) (by omega) ?_
    rintro _ M4 ⟨rfl, rfl⟩
    dsimp only [Option.toList, List.cons_append, List.nil_append]
    exact s_iret C dX6_drop_40 Tr rfl ⟨by rw [isIx_nI ht9 (by omega)]; rfl, by rw [isIx_nI ht9 (by omega), if_pos rfl, if_pos rfl, if_pos rfl, nI_clamp (by omega)]; exact hz8b, hF⟩
  · skip
    refine s_iconst C 12 (-1) dX6_drop_11 rfl (by decide) ?_
    exact s_iret C dX6_drop_12 Tr rfl ⟨by rw [z8]; rfl, by rw [z8]; exact ⟨_, _, _, _, _, _, _, s, tr, h, tx, rk, sy, hZ, hs0, ⟨_, htr⟩, hh, ⟨_, _, _, _, _, hx⟩, hk, ⟨_, hy⟩, hch⟩, mZ.rf⟩
