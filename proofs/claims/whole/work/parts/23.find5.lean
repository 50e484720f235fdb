/-! the digest -/
def ofT (T mo od : Nat) (ln : Nat → Nat) (fl : Nat → Nat → Int32) (us : Nat → Int32) (t w : Nat) : Int32 := ofN (ln t) (1 + cnB (fl t) (ln t)) (us t) (kyN T mo ln fl t).1 (kyN T mo ln fl t).2 (shN T mo od ln fl us t).1 (shN T mo od ln fl us t).2 w
def dtN (T mo od : Nat) (ln : Nat → Nat) (fl : Nat → Nat → Int32) (us : Nat → Int32) : Nat → Int64
  | 0 => 31 * 163 + (nI T).toInt64
  | t + 1 => hwN (fl t) (hwN (ofT T mo od ln fl us t) (dtN T mo od ln fl us t) 7) (ln t)
def dgN (T mo od ql : Nat) (q : Nat → Int32) (ln : Nat → Nat) (fl : Nat → Nat → Int32) (us : Nat → Int32) : Int64 :=
  hrN (rkN T mo od ql q ln fl us T).2 (plN mo ql q ln fl) (31 * hwN q (31 * (31 * (31 * (31 * (31 * dtN T mo od ln fl us T + (nI (unN T mo ln fl T)).toInt64) + (oI (hdN T mo ln fl T).2).toInt64) + (nI mo).toInt64) + (nI od).toInt64) + (nI ql).toInt64) ql + (nI (rkN T mo od ql q ln fl us T).1).toInt64) (rkN T mo od ql q ln fl us T).1
set_option maxRecDepth 100000 in
set_option maxHeartbeats 4000000 in
theorem z_digest {G : mG} {M : mM} {z T mo od ql c n : Nat} {q : Nat → Int32} {ln : Nat → Nat} {fl : Nat → Nat → Int32} {us : Nat → Int32} {hs : Nat → mSt} {g : Nat → Int32} (hz : zR G M z (T, mo, od, ql, q, ln, fl, us) c hs n g) : CC G iX6_digest 0 0 [.ref z] M (fun r M1 => r = some (.long (dgN T mo od ql q ln fl us)) ∧ zR G M1 z (T, mo, od, ql, q, ln, fl, us) c hs n g ∧ mZ TZ M M1) := by
  refine CC.of rfl (Nat.le_of_ble_eq_true rfl) rfl (fun X C Tr => ?_)
  show V X 0 0 0 [some (.ref z), none, none, none] [] M
  have hT0 : T ≤ 16 := by obtain ⟨_, _, _, _, _, _, _, _, _, _, _, _, _, _, hs0, -⟩ := hz; obtain ⟨_, _, _, hsR⟩ := hs0.get; obtain ⟨_, _, _, _, _, _, _, _, _, hT, -⟩ := hsR; exact hT
  refine s_ldc2 C 3 (163) dX6_digest_0 rfl l_X6_229 ?_
  refine s_aload_n C 4 dX6_digest_3 rfl rfl ?_
  refine s_invV C 7 0 0 [.long (163)] (zR_rv hz) dX6_digest_4 rfl m_X6_231 (z_titles hz) rfl rfl rfl ⟨by decide, by decide⟩ (Nat.le_of_ble_eq_true rfl) (by omega) (by omega) ?_
  rintro _ M1 ⟨rfl, rfl⟩
  dsimp only [Option.toList, List.cons_append, List.nil_append]
  refine s_invS C 10 0 0 [] dX6_digest_7 rfl m_X6_233 (z_hashWith) rfl rfl rfl ⟨by decide, by decide⟩ (Nat.le_of_ble_eq_true rfl) (by omega) (by omega) ?_
  rintro _ M2 ⟨rfl, rfl⟩
  dsimp only [Option.toList, List.cons_append, List.nil_append]
  refine s_lstore_n C 11 dX6_digest_10 rfl rfl rfl ?_
  dsimp only [List.set]
  refine s_iconst C 12 (nI 0) dX6_digest_11 rfl (by decide) ?_
  refine s_istore_n C 13 dX6_digest_12 rfl rfl rfl ?_
  dsimp only [List.set]
  suffices lp13 : ∀ (fu13 : Nat) (t : Nat) (h9 : Int64) (M9 : mM), T - t < fu13 → t ≤ T → h9 = dtN T mo od ln fl us t → zR G M9 z (T, mo, od, ql, q, ln, fl, us) c hs n g → mZ TZ M M9 → V X 0 0 13 [some (.ref z), some (.long h9), none, some (.int (nI t))] [] M9 from lp13 (T + 1) 0 _ _ (by omega) (by omega) rfl hz mZ.rf
  intro fu13
  induction fu13 with
  | zero => intro t h9 M9 ht0 ht hh9 hz hF; omega
  | succ fu13 ih13 =>
    intro t h9 M9 ht0 ht hh9 hz hF
    have hzc := hz
    obtain ⟨rc, rr, rp, y1, y2, y3, y4, s, tr, h, tx, rk, sy, hZ, hs0, ⟨yt, htr⟩, hh, ⟨p, cmd, val, fr, to, hx⟩, hk, ⟨yw, hy⟩, hch⟩ := hzc
    obtain ⟨q9, hq9, hqn9, hsR⟩ := hs0.get
    have hsR0 := hsR
    obtain ⟨la, qa, cap, gg, ad, ifn, hS, hL, hQ, hT, hmo, hod, hql, hA⟩ := hsR
    refine s_iload_n C 14 dX6_digest_13 rfl rfl ?_
    refine s_aload_n C 15 dX6_digest_14 rfl rfl ?_
    refine s_getf C 18 dX6_digest_15 rfl f_X6_10 hZ rfl ?_
    refine s_getf C 21 dX6_digest_18 rfl f_X6_119 hS rfl ?_
    refine s_invV C 24 0 0 [.int (nI t)] (lR_rv hL) dX6_digest_21 rfl m_X6_129 (c_size hL) rfl rfl rfl ⟨by decide, by decide⟩ (Nat.le_of_ble_eq_true rfl) (by omega) (by omega) ?_
    rintro _ M3 ⟨rfl, rfl⟩
    dsimp only [Option.toList, List.cons_append, List.nil_append]
    refine s_icmp_geN C 54 27 dX6_digest_24 (by decide) rfl (by omega) (by omega) (fun z24 => ?_) (fun z24 => ?_)
    · skip
      have ht9 : t = T := by omega
      rw [ht9] at hh9
      refine s_lload_n C 55 dX6_digest_54 rfl rfl ?_
      refine s_aload_n C 56 dX6_digest_55 rfl rfl ?_
      refine s_invV C 59 0 0 [.long h9] (zR_rv hz) dX6_digest_56 rfl m_X6_241 (z_unknown hz hT0) rfl rfl rfl ⟨by decide, by decide⟩ (Nat.le_of_ble_eq_true rfl) (by omega) (by omega) ?_
      rintro _ M4 ⟨rfl, hz8, hFr⟩
      dsimp only [Option.toList, List.cons_append, List.nil_append]
      have hz := hz8
      have hF := hF.tr (hFr.mono (fun t ht => by first | (rw [mem_TH] at ht; rw [mem_TZ]; omega) | (simp at ht; done) | (rw [mem_TZ]; simp at ht; omega)))
      refine s_invS C 62 0 0 [] dX6_digest_59 rfl m_X6_233 (z_hashWith) rfl rfl rfl ⟨by decide, by decide⟩ (Nat.le_of_ble_eq_true rfl) (by omega) (by omega) ?_
      rintro _ M5 ⟨rfl, rfl⟩
      dsimp only [Option.toList, List.cons_append, List.nil_append]
      refine s_lstore_n C 63 dX6_digest_62 rfl rfl rfl ?_
      dsimp only [List.set]
      refine s_lload_n C 64 dX6_digest_63 rfl rfl ?_
      refine s_aload_n C 65 dX6_digest_64 rfl rfl ?_
      refine s_invV C 68 0 0 [.long (31 * h9 + (nI (unN T mo ln fl T)).toInt64)] (zR_rv hz) dX6_digest_65 rfl m_X6_244 (z_hardest hz hT0) rfl rfl rfl ⟨by decide, by decide⟩ (Nat.le_of_ble_eq_true rfl) (by omega) (by omega) ?_
      rintro _ M6 ⟨rfl, hz8, hFr⟩
      dsimp only [Option.toList, List.cons_append, List.nil_append]
      have hz := hz8
      have hF := hF.tr (hFr.mono (fun t ht => by first | (rw [mem_TH] at ht; rw [mem_TZ]; omega) | (simp at ht; done) | (rw [mem_TZ]; simp at ht; omega)))
      refine s_invS C 71 0 0 [] dX6_digest_68 rfl m_X6_233 (z_hashWith) rfl rfl rfl ⟨by decide, by decide⟩ (Nat.le_of_ble_eq_true rfl) (by omega) (by omega) ?_
      rintro _ M7 ⟨rfl, rfl⟩
      dsimp only [Option.toList, List.cons_append, List.nil_append]
      refine s_lstore_n C 72 dX6_digest_71 rfl rfl rfl ?_
      dsimp only [List.set]
      refine s_lload_n C 73 dX6_digest_72 rfl rfl ?_
      refine s_aload_n C 74 dX6_digest_73 rfl rfl ?_
      refine s_invV C 77 0 0 [.long (31 * (31 * h9 + (nI (unN T mo ln fl T)).toInt64) + (oI (hdN T mo ln fl T).2).toInt64)] (zR_rv hz) dX6_digest_74 rfl m_X6_247 (z_mode hz) rfl rfl rfl ⟨by decide, by decide⟩ (Nat.le_of_ble_eq_true rfl) (by omega) (by omega) ?_
      rintro _ M8 ⟨rfl, rfl⟩
      dsimp only [Option.toList, List.cons_append, List.nil_append]
      refine s_invS C 80 0 0 [] dX6_digest_77 rfl m_X6_233 (z_hashWith) rfl rfl rfl ⟨by decide, by decide⟩ (Nat.le_of_ble_eq_true rfl) (by omega) (by omega) ?_
      rintro _ M9 ⟨rfl, rfl⟩
      dsimp only [Option.toList, List.cons_append, List.nil_append]
      refine s_lstore_n C 81 dX6_digest_80 rfl rfl rfl ?_
      dsimp only [List.set]
      refine s_lload_n C 82 dX6_digest_81 rfl rfl ?_
      refine s_aload_n C 83 dX6_digest_82 rfl rfl ?_
      refine s_invV C 86 0 0 [.long (31 * (31 * (31 * h9 + (nI (unN T mo ln fl T)).toInt64) + (oI (hdN T mo ln fl T).2).toInt64) + (nI mo).toInt64)] (zR_rv hz) dX6_digest_83 rfl m_X6_249 (z_order hz) rfl rfl rfl ⟨by decide, by decide⟩ (Nat.le_of_ble_eq_true rfl) (by omega) (by omega) ?_
      rintro _ M10 ⟨rfl, rfl⟩
      dsimp only [Option.toList, List.cons_append, List.nil_append]
      refine s_invS C 89 0 0 [] dX6_digest_86 rfl m_X6_233 (z_hashWith) rfl rfl rfl ⟨by decide, by decide⟩ (Nat.le_of_ble_eq_true rfl) (by omega) (by omega) ?_
      rintro _ M11 ⟨rfl, rfl⟩
      dsimp only [Option.toList, List.cons_append, List.nil_append]
      refine s_lstore_n C 90 dX6_digest_89 rfl rfl rfl ?_
      dsimp only [List.set]
      refine s_lload_n C 91 dX6_digest_90 rfl rfl ?_
      refine s_aload_n C 92 dX6_digest_91 rfl rfl ?_
      refine s_invV C 95 0 0 [.long (31 * (31 * (31 * (31 * h9 + (nI (unN T mo ln fl T)).toInt64) + (oI (hdN T mo ln fl T).2).toInt64) + (nI mo).toInt64) + (nI od).toInt64)] (zR_rv hz) dX6_digest_92 rfl m_X6_251 (z_queryLength hz) rfl rfl rfl ⟨by decide, by decide⟩ (Nat.le_of_ble_eq_true rfl) (by omega) (by omega) ?_
      rintro _ M12 ⟨rfl, rfl⟩
      dsimp only [Option.toList, List.cons_append, List.nil_append]
      refine s_invS C 98 0 0 [] dX6_digest_95 rfl m_X6_233 (z_hashWith) rfl rfl rfl ⟨by decide, by decide⟩ (Nat.le_of_ble_eq_true rfl) (by omega) (by omega) ?_
      rintro _ M13 ⟨rfl, rfl⟩
      dsimp only [Option.toList, List.cons_append, List.nil_append]
      refine s_lstore_n C 99 dX6_digest_98 rfl rfl rfl ?_
      dsimp only [List.set]
      refine s_iconst C 100 (nI 0) dX6_digest_99 rfl (by decide) ?_
      refine s_istore_n C 101 dX6_digest_100 rfl rfl rfl ?_
      dsimp only [List.set]
      have hq0 := hF
      have hzc := hz
      obtain ⟨rc, rr, rp, y1, y2, y3, y4, s, tr, h, tx, rk, sy, hZ, hs0, ⟨yt, htr⟩, hh, ⟨p, cmd, val, fr, to, hx⟩, hk, ⟨yw, hy⟩, hch⟩ := hzc
      obtain ⟨q9, hq9, hqn9, hsR⟩ := hs0.get
      have hsR0 := hsR
      obtain ⟨la, qa, cap, gg, ad, ifn, hS, hL, hQ, hT, hmo, hod, hql, hA⟩ := hsR
      suffices lp101 : ∀ (fu101 : Nat) (k : Nat) (h8 : Int64), ql - k < fu101 → k ≤ ql → h8 = hwN q (31 * (31 * (31 * (31 * (31 * h9 + (nI (unN T mo ln fl T)).toInt64) + (oI (hdN T mo ln fl T).2).toInt64) + (nI mo).toInt64) + (nI od).toInt64) + (nI ql).toInt64) k → V X 0 0 101 [some (.ref z), some (.long h8), none, some (.int (nI k))] [] M6 from lp101 (ql + 1) 0 _ (by omega) (by omega) rfl
      intro fu101
      induction fu101 with
      | zero => intro k h8 hk0 hkq hh8; omega
      | succ fu101 ih101 =>
        intro k h8 hk0 hkq hh8
        refine s_iload_n C 102 dX6_digest_101 rfl rfl ?_
        refine s_aload_n C 103 dX6_digest_102 rfl rfl ?_
        refine s_getf C 106 dX6_digest_103 rfl f_X6_10 hZ rfl ?_
        refine s_getf C 109 dX6_digest_106 rfl f_X6_110 hS rfl ?_
        refine s_icmp_geN C 128 112 dX6_digest_109 (by decide) rfl (by omega) (by omega) (fun z109 => ?_) (fun z109 => ?_)
        · skip
          have hkq9 : k = ql := by omega
          refine s_aload_n C 129 dX6_digest_128 rfl rfl ?_
          refine s_lload_n C 130 dX6_digest_129 rfl rfl ?_
          refine s_invV C 133 0 0 [] (zR_rv hz) dX6_digest_130 rfl m_X6_256 (z_hashResults hz) rfl rfl rfl ⟨by decide, by decide⟩ (Nat.le_of_ble_eq_true rfl) (by omega) (by omega) ?_
          rintro _ M14 ⟨rfl, hz8, hFr⟩
          dsimp only [Option.toList, List.cons_append, List.nil_append]
          have hz := hz8
          have hF := hF.tr (hFr.mono (fun t ht => by first | (rw [mem_TH] at ht; rw [mem_TZ]; omega) | (simp at ht; done) | (rw [mem_TZ]; simp at ht; omega)))
          exact s_lret C dX6_digest_133 Tr rfl ⟨by rw [hh8, hkq9, hh9]; rfl, hz, hF⟩
        · skip
          refine s_lload_n C 113 dX6_digest_112 rfl rfl ?_
          refine s_aload_n C 114 dX6_digest_113 rfl rfl ?_
          refine s_iload_n C 115 dX6_digest_114 rfl rfl ?_
          refine s_invV C 118 0 0 [.long h8] (zR_rv hz) dX6_digest_115 rfl m_X6_253 (z_queryCharacter (a := nI k) hz) rfl rfl rfl ⟨by decide, by decide⟩ (Nat.le_of_ble_eq_true rfl) (by omega) (by omega) ?_
          rintro _ M15 ⟨rfl, rfl⟩
          dsimp only [Option.toList, List.cons_append, List.nil_append]
          rw [isIx_nI (show k < ql by omega) (by omega), if_pos rfl, nI_clamp (by omega)]
          refine s_invS C 121 0 0 [] dX6_digest_118 rfl m_X6_233 (z_hashWith) rfl rfl rfl ⟨by decide, by decide⟩ (Nat.le_of_ble_eq_true rfl) (by omega) (by omega) ?_
          rintro _ M16 ⟨rfl, rfl⟩
          dsimp only [Option.toList, List.cons_append, List.nil_append]
          refine s_lstore_n C 122 dX6_digest_121 rfl rfl rfl ?_
          dsimp only [List.set]
          refine s_iinc C 125 (nI (k + 1)) dX6_digest_122 rfl rfl (by rw [← nI_add]; rfl) rfl ?_
          dsimp only [List.set]
          refine s_goto C 101 dX6_digest_125 (by decide) ?_
          exact ih101 (k + 1) _ (by omega) (by omega) (by rw [hh8]; rfl)
    · skip
      refine s_aload_n C 28 dX6_digest_27 rfl rfl ?_
      refine s_lload_n C 29 dX6_digest_28 rfl rfl ?_
      refine s_iload_n C 30 dX6_digest_29 rfl rfl ?_
      refine s_aload_n C 31 dX6_digest_30 rfl rfl ?_
      refine s_getf C 34 dX6_digest_31 rfl f_X6_10 hZ rfl ?_
      refine s_getf C 37 dX6_digest_34 rfl f_X6_119 hS rfl ?_
      refine s_iload_n C 38 dX6_digest_37 rfl rfl ?_
      refine s_invV C 41 0 0 [.int (nI t), .long h9, .ref z] (lR_rv hL) dX6_digest_38 rfl m_X6_139 (c_get (i := t) hL (by omega) (hA t (by omega)).1) rfl rfl rfl ⟨by decide, by decide⟩ (Nat.le_of_ble_eq_true rfl) (by omega) (by omega) ?_
      rintro _ M17 ⟨rfl, rfl⟩
      dsimp only [Option.toList, List.cons_append, List.nil_append]
      obtain ⟨ld, id, hOd, hLd, hId⟩ := (hA t (by omega)).2.1
      have hVd := (hA t (by omega)).2.2.2
      have hnd : ln t ≤ 24 := hVd.2.1
      have hcd := cnB_le (f := fl t) (ln t)
      refine s_castT C 44 dX6_digest_41 rfl hOd rfl k_X6_142 ?_
      refine s_invV C 47 0 0 [] (zR_rv hz) dX6_digest_44 rfl m_X6_237 (z_hashTitle (t := t) hz (by omega) hOd hLd hId) rfl rfl rfl ⟨by decide, by decide⟩ (Nat.le_of_ble_eq_true rfl) (by omega) (by omega) ?_
      rintro _ M18 ⟨rfl, hz8, hFr⟩
      dsimp only [Option.toList, List.cons_append, List.nil_append]
      have hz := hz8
      have hF := hF.tr (hFr.mono (fun t ht => by first | (rw [mem_TH] at ht; rw [mem_TZ]; omega) | (simp at ht; done) | (rw [mem_TZ]; simp at ht; omega)))
      refine s_lstore_n C 48 dX6_digest_47 rfl rfl rfl ?_
      dsimp only [List.set]
      refine s_iinc C 51 (nI (t + 1)) dX6_digest_48 rfl rfl (by rw [← nI_add]; rfl) rfl ?_
      dsimp only [List.set]
      refine s_goto C 13 dX6_digest_51 (by decide) ?_
      exact ih13 (t + 1) _ _ (by omega) (by omega) (by rw [hh9]; rfl) hz hF
