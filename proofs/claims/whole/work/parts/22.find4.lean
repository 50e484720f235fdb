/-! the digest's words -/
def hwN (f : Nat → Int32) (h : Int64) : Nat → Int64
  | 0 => h
  | k + 1 => 31 * hwN f h k + (f k).toInt64
def hrN (r p : Nat → Nat) (h : Int64) : Nat → Int64
  | 0 => h
  | k + 1 => 31 * (31 * hrN r p h k + (nI (r k)).toInt64) + (nI (p (r k))).toInt64
set_option maxRecDepth 100000 in
set_option maxHeartbeats 4000000 in
theorem z_hashWith {G : mG} {M : mM} {h : Int64} {v : Int32} : CC G iX6_hashWith 0 0 [.long h, .int v] M (fun r M1 => r = some (.long (31 * h + v.toInt64)) ∧ M = M1) := by
  refine CC.of rfl (Nat.le_of_ble_eq_true rfl) rfl (fun X C Tr => ?_)
  show V X 0 0 0 [some (.long h), none, some (.int v)] [] M
  refine s_ldc2 C 3 (31) dX6_hashWith_0 rfl l_X6_260 ?_
  refine s_lload_n C 4 dX6_hashWith_3 rfl rfl ?_
  refine s_lmul C 5 dX6_hashWith_4 rfl ?_
  refine s_iload_n C 6 dX6_hashWith_5 rfl rfl ?_
  refine s_i2l C 7 dX6_hashWith_6 rfl ?_
  refine s_ladd C 8 dX6_hashWith_7 rfl ?_
  exact s_lret C dX6_hashWith_8 Tr rfl ⟨rfl, rfl⟩

set_option maxRecDepth 100000 in
set_option maxHeartbeats 4000000 in
theorem z_hashResults {G : mG} {M : mM} {z T mo od ql c n : Nat} {q : Nat → Int32} {ln : Nat → Nat} {fl : Nat → Nat → Int32} {us : Nat → Int32} {hs : Nat → mSt} {g : Nat → Int32} (hz : zR G M z (T, mo, od, ql, q, ln, fl, us) c hs n g) {h0 : Int64} : CC G iX6_hashWithResults 0 0 [.ref z, .long h0] M (fun r M1 => r = some (.long (hrN (rkN T mo od ql q ln fl us T).2 (plN mo ql q ln fl) (31 * h0 + (nI (rkN T mo od ql q ln fl us T).1).toInt64) (rkN T mo od ql q ln fl us T).1)) ∧ zR G M1 z (T, mo, od, ql, q, ln, fl, us) c hs n g ∧ mZ [30, 31, 32] M M1) := by
  refine CC.of rfl (Nat.le_of_ble_eq_true rfl) rfl (fun X C Tr => ?_)
  show V X 0 0 0 [some (.ref z), some (.long h0), none, none, none, none] [] M
  refine s_lload_n C 1 dX6_hashWithResults_0 rfl rfl ?_
  refine s_aload_n C 2 dX6_hashWithResults_1 rfl rfl ?_
  refine s_invV C 5 0 0 [.long h0] (zR_rv hz) dX6_hashWithResults_2 rfl m_X6_199 (z_results hz) rfl rfl rfl ⟨by decide, by decide⟩ (Nat.le_of_ble_eq_true rfl) (by omega) (by omega) ?_
  rintro _ M1 ⟨rfl, ⟨y1, y2, y3, y4, hz5⟩, hFk⟩
  dsimp only [Option.toList, List.cons_append, List.nil_append]
  obtain ⟨s, tr, h, tx, rk, sy, hZ, hs0, ⟨yt, htr⟩, hh, ⟨p, cmd, val, fr, to, hx⟩, hk, ⟨yw, hy⟩, hch⟩ := hz5
  have hk0 := hk
  obtain ⟨ra, pa, rf, pf, hRk, hRa, hPa, hc16, hrk⟩ := hk
  refine s_invS C 8 0 0 [] dX6_hashWithResults_5 rfl m_X6_233 (z_hashWith) rfl rfl rfl ⟨by decide, by decide⟩ (Nat.le_of_ble_eq_true rfl) (by omega) (by omega) ?_
  rintro _ M2 ⟨rfl, rfl⟩
  dsimp only [Option.toList, List.cons_append, List.nil_append]
  refine s_lstore_n C 9 dX6_hashWithResults_8 rfl rfl rfl ?_
  dsimp only [List.set]
  refine s_iconst C 10 (nI 0) dX6_hashWithResults_9 rfl (by decide) ?_
  refine s_istore C 12 dX6_hashWithResults_10 rfl rfl rfl ?_
  dsimp only [List.set]
  suffices lp12 : ∀ (fu12 : Nat) (k : Nat) (h9 : Int64), (rkN T mo od ql q ln fl us T).1 - k < fu12 → k ≤ (rkN T mo od ql q ln fl us T).1 → h9 = hrN (rkN T mo od ql q ln fl us T).2 (plN mo ql q ln fl) (31 * h0 + (nI (rkN T mo od ql q ln fl us T).1).toInt64) k → V X 0 0 12 [some (.ref z), some (.long h0), none, some (.long h9), none, some (.int (nI k))] [] M1 from lp12 ((rkN T mo od ql q ln fl us T).1 + 1) 0 _ (by omega) (by omega) rfl
  intro fu12
  induction fu12 with
  | zero => intro k h9 hk9 hkle hh9; omega
  | succ fu12 ih12 =>
    intro k h9 hk9 hkle hh9
    refine s_iload C 14 dX6_hashWithResults_12 rfl rfl ?_
    refine s_aload_n C 15 dX6_hashWithResults_14 rfl rfl ?_
    refine s_getf C 18 dX6_hashWithResults_15 rfl f_X6_36 hZ rfl ?_
    refine s_getf C 21 dX6_hashWithResults_18 rfl f_X6_208 hRk rfl ?_
    refine s_icmp_geN C 58 24 dX6_hashWithResults_21 (by decide) rfl (by omega) (by omega) (fun z21 => ?_) (fun z21 => ?_)
    · skip
      have hke : k = (rkN T mo od ql q ln fl us T).1 := by omega
      refine s_lload_n C 59 dX6_hashWithResults_58 rfl rfl ?_
      exact s_lret C dX6_hashWithResults_59 Tr rfl ⟨by rw [hh9, hke], (zA.R (y1 := y1) (y2 := y2) (y3 := y3) (y4 := y4) ⟨s, tr, h, tx, rk, sy, hZ, hs0, ⟨_, htr⟩, hh, ⟨_, _, _, _, _, hx⟩, hk0, ⟨_, hy⟩, hch⟩), hFk⟩
    · skip
      refine s_lload_n C 25 dX6_hashWithResults_24 rfl rfl ?_
      refine s_aload_n C 26 dX6_hashWithResults_25 rfl rfl ?_
      refine s_getf C 29 dX6_hashWithResults_26 rfl f_X6_36 hZ rfl ?_
      refine s_iload C 31 dX6_hashWithResults_29 rfl rfl ?_
      refine s_invV C 34 0 0 [.long h9] (kR_rv hk0) dX6_hashWithResults_31 rfl m_X6_212 (c_titleAt (k := k) hk0 (by omega)) rfl rfl rfl ⟨by decide, by decide⟩ (Nat.le_of_ble_eq_true rfl) (by omega) (by omega) ?_
      rintro _ M3 ⟨rfl, rfl⟩
      dsimp only [Option.toList, List.cons_append, List.nil_append]
      refine s_invS C 37 0 0 [] dX6_hashWithResults_34 rfl m_X6_233 (z_hashWith) rfl rfl rfl ⟨by decide, by decide⟩ (Nat.le_of_ble_eq_true rfl) (by omega) (by omega) ?_
      rintro _ M4 ⟨rfl, rfl⟩
      dsimp only [Option.toList, List.cons_append, List.nil_append]
      refine s_lstore_n C 38 dX6_hashWithResults_37 rfl rfl rfl ?_
      dsimp only [List.set]
      refine s_lload_n C 39 dX6_hashWithResults_38 rfl rfl ?_
      refine s_aload_n C 40 dX6_hashWithResults_39 rfl rfl ?_
      refine s_getf C 43 dX6_hashWithResults_40 rfl f_X6_36 hZ rfl ?_
      refine s_iload C 45 dX6_hashWithResults_43 rfl rfl ?_
      refine s_invV C 48 0 0 [.long (31 * h9 + (nI ((rkN T mo od ql q ln fl us T).2 k)).toInt64)] (kR_rv hk0) dX6_hashWithResults_45 rfl m_X6_215 (c_placeAt (k := k) hk0 (by omega)) rfl rfl rfl ⟨by decide, by decide⟩ (Nat.le_of_ble_eq_true rfl) (by omega) (by omega) ?_
      rintro _ M5 ⟨rfl, rfl⟩
      dsimp only [Option.toList, List.cons_append, List.nil_append]
      refine s_invS C 51 0 0 [] dX6_hashWithResults_48 rfl m_X6_233 (z_hashWith) rfl rfl rfl ⟨by decide, by decide⟩ (Nat.le_of_ble_eq_true rfl) (by omega) (by omega) ?_
      rintro _ M6 ⟨rfl, rfl⟩
      dsimp only [Option.toList, List.cons_append, List.nil_append]
      refine s_lstore_n C 52 dX6_hashWithResults_51 rfl rfl rfl ?_
      dsimp only [List.set]
      refine s_iinc C 55 (nI (k + 1)) dX6_hashWithResults_52 rfl rfl (by rw [← nI_add]; rfl) rfl ?_
      dsimp only [List.set]
      refine s_goto C 12 dX6_hashWithResults_55 (by decide) ?_
      exact ih12 (k + 1) _ (by omega) (by omega) (by rw [hh9]; rfl)

set_option maxRecDepth 100000 in
set_option maxHeartbeats 4000000 in
theorem z_hashTitle {G : mG} {M : mM} {z T mo od ql c n : Nat} {q : Nat → Int32} {ln : Nat → Nat} {fl : Nat → Nat → Int32} {us : Nat → Int32} {hs : Nat → mSt} {g : Nat → Int32} (hz : zR G M z (T, mo, od, ql, q, ln, fl, us) c hs n g) {t b lb ib : Nat} {i2 : Nat → Int32} {h0 : Int64} (htT : t < T) (hOb : M b = some (1, .inl (6, [.ref lb, .ref ib, .int (us t)]))) (hLb : M lb = some (1, .inr (1, ln t, .inl (fl t)))) (hIb : M ib = some (1, .inr (1, 1 + cnB (fl t) (ln t), .inl i2))) : CC G iX6_hashWithTitle 0 0 [.ref z, .long h0, .int (nI t), .ref b] M (fun r M1 => r = some (.long (hwN (fl t) (hwN (fun w => (ofN (ln t) (1 + cnB (fl t) (ln t)) (us t) (kyN T mo ln fl t).1 (kyN T mo ln fl t).2 (shN T mo od ln fl us t).1 (shN T mo od ln fl us t).2 w)) h0 7) (ln t))) ∧ zR G M1 z (T, mo, od, ql, q, ln, fl, us) c hs n g ∧ mZ [40, 42] M M1) := by
  refine CC.of rfl (Nat.le_of_ble_eq_true rfl) rfl (fun X C Tr => ?_)
  show V X 0 0 0 [some (.ref z), some (.long h0), none, some (.int (nI t)), some (.ref b), none, none, none] [] M
  obtain ⟨rc, rr, rp, y1, y2, y3, y4, s, tr, h, tx, rk, sy, hZ, hs0, ⟨yt, htr⟩, hh, ⟨p, cmd, val, fr, to, hx⟩, hk, ⟨yw, hy⟩, hch⟩ := hz
  obtain ⟨q9, hq9, hqn9, hsR⟩ := hs0.get
  have hsR0 := hsR
  obtain ⟨la, qa, cap, gg, ad, ifn, hS, hL, hQ, hT, hmo, hod, hql, hA⟩ := hsR
  have hn24 : ln t ≤ 24 := (hA t htT).2.2.2.2.1
  refine s_lload_n C 1 dX6_hashWithTitle_0 rfl rfl ?_
  refine s_lstore C 3 dX6_hashWithTitle_1 rfl rfl rfl ?_
  dsimp only [List.set]
  refine s_aload_n C 4 dX6_hashWithTitle_3 rfl rfl ?_
  refine s_getf C 7 dX6_hashWithTitle_4 rfl f_X6_43 hZ rfl ?_
  refine s_aload_n C 8 dX6_hashWithTitle_7 rfl rfl ?_
  refine s_getf C 11 dX6_hashWithTitle_8 rfl f_X6_10 hZ rfl ?_
  refine s_iload_n C 12 dX6_hashWithTitle_11 rfl rfl ?_
  refine s_invV C 15 0 0 [] (yR_rv hy) dX6_hashWithTitle_12 rfl m_X6_148 (c_look (t := t) hsR0 hy (by omega)) rfl rfl rfl ⟨by decide, by decide⟩ (Nat.le_of_ble_eq_true rfl) (by omega) (by omega) ?_
  rintro _ M1 ⟨rfl, ks9, kl9, ss9, sl9, rw9, hy9, hbk, hbs, hFy⟩
  dsimp only [Option.toList, List.cons_append, List.nil_append]
  have hZ := hFy.at hZ (by first | (simp; done) | (simp; omega) | (rw [mem_TH]; omega) | (rw [mem_TZ]; omega))
  have hs0 := hs0.at hFy (by first | (simp; done) | (simp; omega) | (rw [mem_TH]; omega) | (rw [mem_TZ]; omega)) (by first | (simp; done) | (simp; omega) | (rw [mem_TH]; omega) | (rw [mem_TZ]; omega)) (fun j hj => by first | (simp; done) | (simp; omega) | (rw [mem_TH]; omega) | (rw [mem_TZ]; omega))
  have htr := htr.at hFy (by first | (simp; done) | (simp; omega) | (rw [mem_TH]; omega) | (rw [mem_TZ]; omega)) (by first | (simp; done) | (simp; omega) | (rw [mem_TH]; omega) | (rw [mem_TZ]; omega)) (fun j hj => by first | (simp; done) | (simp; omega) | (rw [mem_TH]; omega) | (rw [mem_TZ]; omega))
  have hh := hh.at hFy (by first | (simp; done) | (simp; omega) | (rw [mem_TH]; omega) | (rw [mem_TZ]; omega)) (by first | (simp; done) | (simp; omega) | (rw [mem_TH]; omega) | (rw [mem_TZ]; omega)) (by first | (simp; done) | (simp; omega) | (rw [mem_TH]; omega) | (rw [mem_TZ]; omega)) (fun t ht => by rw [mem_TH] at ht; first | (simp; done) | (simp; omega))
  have hx := hx.at hFy (by first | (simp; done) | (simp; omega) | (rw [mem_TH]; omega) | (rw [mem_TZ]; omega)) (by first | (simp; done) | (simp; omega) | (rw [mem_TH]; omega) | (rw [mem_TZ]; omega))
  have hk := hk.at hFy (by first | (simp; done) | (simp; omega) | (rw [mem_TH]; omega) | (rw [mem_TZ]; omega)) (by first | (simp; done) | (simp; omega) | (rw [mem_TH]; omega) | (rw [mem_TZ]; omega)) (by first | (simp; done) | (simp; omega) | (rw [mem_TH]; omega) | (rw [mem_TZ]; omega))
  have hy := hy9
  have hky := kyN_of hbk (hA t (by omega)).2.2.2
  have hsh := shN_of hbs (hA t (by omega)).2.2.2
  have hsR0 := hsR0.at hFy (by simp) (by simp) (by simp) (by simp) (by simp) (by simp)
  obtain ⟨pA, gA, ra, hY, hyx⟩ := hy9
  have hOb := hFy.at hOb (by simp)
  have hLb := hFy.at hLb (by simp)
  have hIb := hFy.at hIb (by simp)
  have hza : zA G M1 z (T, mo, od, ql, q, ln, fl, us) c hs n g rc rr rp ks9 kl9 ss9 sl9 := ⟨s, tr, h, tx, rk, sy, hZ, hs0, ⟨_, htr⟩, hh, ⟨_, _, _, _, _, hx⟩, hk, ⟨_, hy⟩, hch⟩
  refine s_iconst C 16 (nI 0) dX6_hashWithTitle_15 rfl (by decide) ?_
  refine s_istore C 18 dX6_hashWithTitle_16 rfl rfl rfl ?_
  dsimp only [List.set]
  suffices lp18 : ∀ (fu18 : Nat) (w : Nat) (h9 : Int64), 7 - w < fu18 → w ≤ 7 → h9 = hwN (fun w => (ofN (ln t) (1 + cnB (fl t) (ln t)) (us t) (kyN T mo ln fl t).1 (kyN T mo ln fl t).2 (shN T mo od ln fl us t).1 (shN T mo od ln fl us t).2 w)) h0 w → V X 0 0 18 [some (.ref z), some (.long h0), none, some (.int (nI t)), some (.ref b), some (.long h9), none, some (.int (nI w))] [] M1 from lp18 8 0 _ (by omega) (by omega) rfl
  intro fu18
  induction fu18 with
  | zero => intro w h9 hw9 hw hh9; omega
  | succ fu18 ih18 =>
    intro w h9 hw9 hw hh9
    refine s_iload C 20 dX6_hashWithTitle_18 rfl rfl ?_
    refine s_bipush C 22 (nI 6) dX6_hashWithTitle_20 rfl (by decide) ?_
    refine s_icmp_gtN C 46 25 dX6_hashWithTitle_22 (by decide) rfl (by omega) (by omega) (fun z22 => ?_) (fun z22 => ?_)
    · skip
      have hw7 : w = 7 := by omega
      subst hw7
      refine s_iconst C 47 (nI 0) dX6_hashWithTitle_46 rfl (by decide) ?_
      refine s_istore C 49 dX6_hashWithTitle_47 rfl rfl rfl ?_
      dsimp only [List.set]
      suffices lp49 : ∀ (fu49 : Nat) (k : Nat) (h8 : Int64), ln t - k < fu49 → k ≤ ln t → h8 = hwN (fl t) (hwN (fun w => (ofN (ln t) (1 + cnB (fl t) (ln t)) (us t) (kyN T mo ln fl t).1 (kyN T mo ln fl t).2 (shN T mo od ln fl us t).1 (shN T mo od ln fl us t).2 w)) h0 7) k → V X 0 0 49 [some (.ref z), some (.long h0), none, some (.int (nI t)), some (.ref b), some (.long h8), none, some (.int (nI k))] [] M1 from lp49 (ln t + 1) 0 _ (by omega) (by omega) hh9
      intro fu49
      induction fu49 with
      | zero => intro k h8 hk9 hkl hh8; omega
      | succ fu49 ih49 =>
        intro k h8 hk9 hkl hh8
        refine s_iload C 51 dX6_hashWithTitle_49 rfl rfl ?_
        refine s_aload C 53 dX6_hashWithTitle_51 rfl rfl ?_
        refine s_getf C 56 dX6_hashWithTitle_53 rfl f_X6_144 hOb rfl ?_
        refine s_alen C 57 dX6_hashWithTitle_56 rfl hLb (by decide) ?_
        refine s_icmp_geN C 81 60 dX6_hashWithTitle_57 (by decide) rfl (by omega) (by omega) (fun z57 => ?_) (fun z57 => ?_)
        · skip
          have hke : k = ln t := by omega
          refine s_lload C 83 dX6_hashWithTitle_81 rfl rfl ?_
          exact s_lret C dX6_hashWithTitle_83 Tr rfl ⟨by rw [hh8, hke], hza.R, hFy⟩
        · skip
          refine s_lload C 62 dX6_hashWithTitle_60 rfl rfl ?_
          refine s_aload C 64 dX6_hashWithTitle_62 rfl rfl ?_
          refine s_getf C 67 dX6_hashWithTitle_64 rfl f_X6_144 hOb rfl ?_
          refine s_iload C 69 dX6_hashWithTitle_67 rfl rfl ?_
          refine s_cald C 70 dX6_hashWithTitle_69 rfl hLb (by omega) (by omega) ?_
          refine s_invS C 73 0 0 [] dX6_hashWithTitle_70 rfl m_X6_233 (z_hashWith) rfl rfl rfl ⟨by decide, by decide⟩ (Nat.le_of_ble_eq_true rfl) (by omega) (by omega) ?_
          rintro _ M2 ⟨rfl, rfl⟩
          dsimp only [Option.toList, List.cons_append, List.nil_append]
          refine s_lstore C 75 dX6_hashWithTitle_73 rfl rfl rfl ?_
          dsimp only [List.set]
          refine s_iinc C 78 (nI (k + 1)) dX6_hashWithTitle_75 rfl rfl (by rw [← nI_add]; rfl) rfl ?_
          dsimp only [List.set]
          refine s_goto C 49 dX6_hashWithTitle_78 (by decide) ?_
          exact ih49 (k + 1) _ (by omega) (by omega) (by rw [hh8]; rfl)
    · skip
      refine s_lload C 27 dX6_hashWithTitle_25 rfl rfl ?_
      refine s_aload_n C 28 dX6_hashWithTitle_27 rfl rfl ?_
      refine s_aload C 30 dX6_hashWithTitle_28 rfl rfl ?_
      refine s_iload C 32 dX6_hashWithTitle_30 rfl rfl ?_
      refine s_invV C 35 0 0 [.long h9] (zA_rv hza) dX6_hashWithTitle_32 rfl m_X6_152 (z_studied hza hOb hLb hIb (by omega)) rfl rfl rfl ⟨by decide, by decide⟩ (Nat.le_of_ble_eq_true rfl) (by omega) (by omega) ?_
      rintro _ M3 ⟨rfl, rfl⟩
      dsimp only [Option.toList, List.cons_append, List.nil_append]
      refine s_invS C 38 0 0 [] dX6_hashWithTitle_35 rfl m_X6_233 (z_hashWith) rfl rfl rfl ⟨by decide, by decide⟩ (Nat.le_of_ble_eq_true rfl) (by omega) (by omega) ?_
      rintro _ M4 ⟨rfl, rfl⟩
      dsimp only [Option.toList, List.cons_append, List.nil_append]
      refine s_lstore C 40 dX6_hashWithTitle_38 rfl rfl rfl ?_
      dsimp only [List.set]
      refine s_iinc C 43 (nI (w + 1)) dX6_hashWithTitle_40 rfl rfl (by rw [← nI_add]; rfl) rfl ?_
      dsimp only [List.set]
      refine s_goto C 18 dX6_hashWithTitle_43 (by decide) ?_
      exact ih18 (w + 1) _ (by omega) (by omega) (by rw [hh9, hwN, hky, hsh])

set_option maxRecDepth 100000 in
set_option maxHeartbeats 4000000 in
theorem z_add {G : mG} {M : mM} {z T mo od ql c n : Nat} {q : Nat → Int32} {ln : Nat → Nat} {fl : Nat → Nat → Int32} {us : Nat → Int32} {hs : Nat → mSt} {g : Nat → Int32} (hz : zR G M z (T, mo, od, ql, q, ln, fl, us) c hs n g) : CC G iX6_add 20 426 [.ref z] M (fun r M1 => r = some (.int (if itB g n = true then (if refV T ln fl (fun j => g (0 + j)) n < 0 then refV T ln fl (fun j => g (0 + j)) n else nI T) else -5)) ∧ zR G M1 z (if (itB g n = true ∧ ¬ refV T ln fl (fun j => g (0 + j)) n < 0) then (stAdd T mo od ql q ln fl us n (fun j => g (0 + j)) (nI 0)) else (T, mo, od, ql, q, ln, fl, us)) (if (itB g n = true ∧ ¬ refV T ln fl (fun j => g (0 + j)) n < 0) then (min (c + 1) 6) else c) (if (itB g n = true ∧ ¬ refV T ln fl (fun j => g (0 + j)) n < 0) then (hPush (T, mo, od, ql, q, ln, fl, us) hs) else hs) (if (itB g n = true ∧ ¬ refV T ln fl (fun j => g (0 + j)) n < 0) then 0 else n) g ∧ mZ TZ M M1) := by
  refine CC.of rfl (Nat.le_of_ble_eq_true rfl) rfl (fun X C Tr => ?_)
  show V X 20 426 0 [some (.ref z), none, none] [] M
  obtain ⟨rc, rr, rp, y1, y2, y3, y4, s, tr, h, tx, rk, sy, hZ, hs0, ⟨yt, htr⟩, hh, ⟨p, cmd, val, fr, to, hx⟩, hk, ⟨yw, hy⟩, hch⟩ := hz
  refine s_aload_n C 1 dX6_add_0 rfl rfl ?_
  refine s_getf C 4 dX6_add_1 rfl f_X6_29 hZ rfl ?_
  refine s_invV C 7 20 426 [] (xR_rv hx) dX6_add_4 rfl m_X6_113 (c_isTitle hx) rfl rfl rfl ⟨by decide, by decide⟩ (Nat.le_of_ble_eq_true rfl) (by omega) (by omega) ?_
  rintro _ M1 ⟨rfl, hx9, hFx⟩
  dsimp only [Option.toList, List.cons_append, List.nil_append]
  have hZ := hFx.at hZ (by first | (simp; done) | (simp; omega) | (rw [mem_TH]; omega) | (rw [mem_TZ]; omega))
  have hs0 := hs0.at hFx (by first | (simp; done) | (simp; omega) | (rw [mem_TH]; omega) | (rw [mem_TZ]; omega)) (by first | (simp; done) | (simp; omega) | (rw [mem_TH]; omega) | (rw [mem_TZ]; omega)) (fun j hj => by first | (simp; done) | (simp; omega) | (rw [mem_TH]; omega) | (rw [mem_TZ]; omega))
  have htr := htr.at hFx (by first | (simp; done) | (simp; omega) | (rw [mem_TH]; omega) | (rw [mem_TZ]; omega)) (by first | (simp; done) | (simp; omega) | (rw [mem_TH]; omega) | (rw [mem_TZ]; omega)) (fun j hj => by first | (simp; done) | (simp; omega) | (rw [mem_TH]; omega) | (rw [mem_TZ]; omega))
  have hh := hh.at hFx (by first | (simp; done) | (simp; omega) | (rw [mem_TH]; omega) | (rw [mem_TZ]; omega)) (by first | (simp; done) | (simp; omega) | (rw [mem_TH]; omega) | (rw [mem_TZ]; omega)) (by first | (simp; done) | (simp; omega) | (rw [mem_TH]; omega) | (rw [mem_TZ]; omega)) (fun t ht => by rw [mem_TH] at ht; first | (simp; done) | (simp; omega))
  have hk := hk.at hFx (by first | (simp; done) | (simp; omega) | (rw [mem_TH]; omega) | (rw [mem_TZ]; omega)) (by first | (simp; done) | (simp; omega) | (rw [mem_TH]; omega) | (rw [mem_TZ]; omega)) (by first | (simp; done) | (simp; omega) | (rw [mem_TH]; omega) | (rw [mem_TZ]; omega))
  have hy := hy.at hFx (by first | (simp; done) | (simp; omega) | (rw [mem_TH]; omega) | (rw [mem_TZ]; omega)) (by first | (simp; done) | (simp; omega) | (rw [mem_TH]; omega) | (rw [mem_TZ]; omega)) (by first | (simp; done) | (simp; omega) | (rw [mem_TH]; omega) | (rw [mem_TZ]; omega))
  have hx := hx9
  refine s_if_neB C 13 10 dX6_add_7 (by decide) rfl (fun z7 => ?_) (fun z7 => ?_)
  · skip
    obtain ⟨he9, hTV, hn24⟩ := itB_TV z7
    rw [he9] at hx
    have hs1 := hs0
    obtain ⟨q9, hq9, hqn9, hsR⟩ := hs1.get
    refine s_aload_n C 14 dX6_add_13 rfl rfl ?_
    refine s_getf C 17 dX6_add_14 rfl f_X6_29 hZ rfl ?_
    refine s_invV C 20 17 374 [] (xR_rv hx) dX6_add_17 rfl m_X6_82 (c_passedTitle hx (by omega) (by omega) (by omega) hch) rfl rfl rfl ⟨by decide, by decide⟩ (Nat.le_of_ble_eq_true rfl) (by omega) (by omega) ?_
    rintro _ M2 ⟨b, i2, rfl, hnb, hIn, hTb, hFp⟩
    dsimp only [Option.toList, List.cons_append, List.nil_append]
    rw [Nat.sub_zero] at hIn hTb
    have hZ := hFp.at hZ (by first | (simp; done) | (simp; omega) | (rw [mem_TH]; omega) | (rw [mem_TZ]; omega))
    have hs0 := hs0.at hFp (by first | (simp; done) | (simp; omega) | (rw [mem_TH]; omega) | (rw [mem_TZ]; omega)) (by first | (simp; done) | (simp; omega) | (rw [mem_TH]; omega) | (rw [mem_TZ]; omega)) (fun j hj => by first | (simp; done) | (simp; omega) | (rw [mem_TH]; omega) | (rw [mem_TZ]; omega))
    have htr := htr.at hFp (by first | (simp; done) | (simp; omega) | (rw [mem_TH]; omega) | (rw [mem_TZ]; omega)) (by first | (simp; done) | (simp; omega) | (rw [mem_TH]; omega) | (rw [mem_TZ]; omega)) (fun j hj => by first | (simp; done) | (simp; omega) | (rw [mem_TH]; omega) | (rw [mem_TZ]; omega))
    have hh := hh.at hFp (by first | (simp; done) | (simp; omega) | (rw [mem_TH]; omega) | (rw [mem_TZ]; omega)) (by first | (simp; done) | (simp; omega) | (rw [mem_TH]; omega) | (rw [mem_TZ]; omega)) (by first | (simp; done) | (simp; omega) | (rw [mem_TH]; omega) | (rw [mem_TZ]; omega)) (fun t ht => by rw [mem_TH] at ht; first | (simp; done) | (simp; omega))
    have hx := hx.at hFp (by first | (simp; done) | (simp; omega) | (rw [mem_TH]; omega) | (rw [mem_TZ]; omega)) (by first | (simp; done) | (simp; omega) | (rw [mem_TH]; omega) | (rw [mem_TZ]; omega))
    have hk := hk.at hFp (by first | (simp; done) | (simp; omega) | (rw [mem_TH]; omega) | (rw [mem_TZ]; omega)) (by first | (simp; done) | (simp; omega) | (rw [mem_TH]; omega) | (rw [mem_TZ]; omega)) (by first | (simp; done) | (simp; omega) | (rw [mem_TH]; omega) | (rw [mem_TZ]; omega))
    have hy := hy.at hFp (by first | (simp; done) | (simp; omega) | (rw [mem_TH]; omega) | (rw [mem_TZ]; omega)) (by first | (simp; done) | (simp; omega) | (rw [mem_TH]; omega) | (rw [mem_TZ]; omega)) (by first | (simp; done) | (simp; omega) | (rw [mem_TH]; omega) | (rw [mem_TZ]; omega))
    obtain ⟨q9, hq9, hqn9, hsR⟩ := hs0.get
    have hsR0 := hsR
    obtain ⟨la, qa, cap, gg, ad, ifn, hS, hL, hQ, hT, hmo, hod, hql, hA⟩ := hsR
    obtain ⟨lb, ib, hOb, hLb, hIb⟩ := hTb
    have hTb : tR M2 b n (fun j => g (0 + j)) (1 + cnB (fun j => g (0 + j)) n) i2 (nI 0) := ⟨lb, ib, hOb, hLb, hIb⟩
    have hz2 : zR G M2 z (T, mo, od, ql, q, ln, fl, us) c hs n g := ⟨_, _, _, _, _, _, _, s, tr, h, tx, rk, sy, hZ, hs0, ⟨_, htr⟩, hh, ⟨_, _, _, _, _, hx⟩, hk, ⟨_, hy⟩, hch⟩
    refine s_astore_n C 21 dX6_add_20 rfl rfl rfl ?_
    dsimp only [List.set]
    refine s_aload_n C 22 dX6_add_21 rfl rfl ?_
    refine s_getf C 25 dX6_add_22 rfl f_X6_10 hZ rfl ?_
    refine s_aload_n C 26 dX6_add_25 rfl rfl ?_
    refine s_invV C 29 17 374 [] (sR_rv hsR0) dX6_add_26 rfl m_X6_116 (c_refusal hsR0 hOb hLb hIb hn24) rfl rfl rfl ⟨by decide, by decide⟩ (Nat.le_of_ble_eq_true rfl) (by omega) (by omega) ?_
    rintro _ M3 ⟨rfl, rfl⟩
    dsimp only [Option.toList, List.cons_append, List.nil_append]
    refine s_istore_n C 30 dX6_add_29 rfl rfl rfl ?_
    dsimp only [List.set]
    refine s_iload_n C 31 dX6_add_30 rfl rfl ?_
    refine s_if_ge C 36 34 dX6_add_31 (by decide) rfl (fun z31 => ?_) (fun z31 => ?_)
    · skip
      have hnn : ¬ refV T ln fl (fun j => g (0 + j)) n < 0 := i32_le.mp z31
      have hyes : (itB g n = true ∧ ¬ refV T ln fl (fun j => g (0 + j)) n < 0) := ⟨z7, hnn⟩
      refine s_aload_n C 37 dX6_add_36 rfl rfl ?_
      refine s_getf C 40 dX6_add_37 rfl f_X6_22 hZ rfl ?_
      refine s_aload_n C 41 dX6_add_40 rfl rfl ?_
      refine s_getf C 44 dX6_add_41 rfl f_X6_10 hZ rfl ?_
      refine s_invV C 47 1 22 [] (hR_rv hh) dX6_add_44 rfl m_X6_62 (c_save hh hs0 (by omega)) rfl rfl rfl ⟨by decide, by decide⟩ (Nat.le_of_ble_eq_true rfl) (by omega) (by omega) ?_
      rintro _ M4 ⟨rfl, hh9, hs9, hFh⟩
      dsimp only [Option.toList, List.cons_append, List.nil_append]
      have hZ := hFh.at hZ (by first | (simp; done) | (simp; omega) | (rw [mem_TH]; omega) | (rw [mem_TZ]; omega))
      have htr := htr.at hFh (by first | (simp; done) | (simp; omega) | (rw [mem_TH]; omega) | (rw [mem_TZ]; omega)) (by first | (simp; done) | (simp; omega) | (rw [mem_TH]; omega) | (rw [mem_TZ]; omega)) (fun j hj => by first | (simp; done) | (simp; omega) | (rw [mem_TH]; omega) | (rw [mem_TZ]; omega))
      have hx := hx.at hFh (by first | (simp; done) | (simp; omega) | (rw [mem_TH]; omega) | (rw [mem_TZ]; omega)) (by first | (simp; done) | (simp; omega) | (rw [mem_TH]; omega) | (rw [mem_TZ]; omega))
      have hk := hk.at hFh (by first | (simp; done) | (simp; omega) | (rw [mem_TH]; omega) | (rw [mem_TZ]; omega)) (by first | (simp; done) | (simp; omega) | (rw [mem_TH]; omega) | (rw [mem_TZ]; omega)) (by first | (simp; done) | (simp; omega) | (rw [mem_TH]; omega) | (rw [mem_TZ]; omega))
      have hy := hy.at hFh (by first | (simp; done) | (simp; omega) | (rw [mem_TH]; omega) | (rw [mem_TZ]; omega)) (by first | (simp; done) | (simp; omega) | (rw [mem_TH]; omega) | (rw [mem_TZ]; omega)) (by first | (simp; done) | (simp; omega) | (rw [mem_TH]; omega) | (rw [mem_TZ]; omega))
      have hh := hh9
      have hs0 := hs9
      obtain ⟨q9, hq9, hqn9, hsR⟩ := hs0.get
      have hsR0 := hsR
      obtain ⟨la, qa, cap, gg, ad, ifn, hS, hL, hQ, hT, hmo, hod, hql, hA⟩ := hsR
      have hF := hFh.mono (T' := TZ) (fun t ht => by rw [mem_TH] at ht; rw [mem_TZ]; omega)
      have hTb := hTb.at hFh (by first | (simp; done) | (simp; omega) | (rw [mem_TH]; omega) | (rw [mem_TZ]; omega))
      refine s_aload_n C 48 dX6_add_47 rfl rfl ?_
      refine s_getf C 51 dX6_add_48 rfl f_X6_29 hZ rfl ?_
      refine s_invV C 54 1 22 [] (xR_rv hx) dX6_add_51 rfl m_X6_55 (c_makeEmpty hx) rfl rfl rfl ⟨by decide, by decide⟩ (Nat.le_of_ble_eq_true rfl) (by omega) (by omega) ?_
      rintro _ M5 ⟨rfl, hx8, hFe⟩
      dsimp only [Option.toList, List.cons_append, List.nil_append]
      have hZ := hFe.at hZ (by first | (simp; done) | (simp; omega) | (rw [mem_TH]; omega) | (rw [mem_TZ]; omega))
      have hs0 := hs0.at hFe (by first | (simp; done) | (simp; omega) | (rw [mem_TH]; omega) | (rw [mem_TZ]; omega)) (by first | (simp; done) | (simp; omega) | (rw [mem_TH]; omega) | (rw [mem_TZ]; omega)) (fun j hj => by first | (simp; done) | (simp; omega) | (rw [mem_TH]; omega) | (rw [mem_TZ]; omega))
      have htr := htr.at hFe (by first | (simp; done) | (simp; omega) | (rw [mem_TH]; omega) | (rw [mem_TZ]; omega)) (by first | (simp; done) | (simp; omega) | (rw [mem_TH]; omega) | (rw [mem_TZ]; omega)) (fun j hj => by first | (simp; done) | (simp; omega) | (rw [mem_TH]; omega) | (rw [mem_TZ]; omega))
      have hh := hh.at hFe (by first | (simp; done) | (simp; omega) | (rw [mem_TH]; omega) | (rw [mem_TZ]; omega)) (by first | (simp; done) | (simp; omega) | (rw [mem_TH]; omega) | (rw [mem_TZ]; omega)) (by first | (simp; done) | (simp; omega) | (rw [mem_TH]; omega) | (rw [mem_TZ]; omega)) (fun t ht => by rw [mem_TH] at ht; first | (simp; done) | (simp; omega))
      have hk := hk.at hFe (by first | (simp; done) | (simp; omega) | (rw [mem_TH]; omega) | (rw [mem_TZ]; omega)) (by first | (simp; done) | (simp; omega) | (rw [mem_TH]; omega) | (rw [mem_TZ]; omega)) (by first | (simp; done) | (simp; omega) | (rw [mem_TH]; omega) | (rw [mem_TZ]; omega))
      have hy := hy.at hFe (by first | (simp; done) | (simp; omega) | (rw [mem_TH]; omega) | (rw [mem_TZ]; omega)) (by first | (simp; done) | (simp; omega) | (rw [mem_TH]; omega) | (rw [mem_TZ]; omega)) (by first | (simp; done) | (simp; omega) | (rw [mem_TH]; omega) | (rw [mem_TZ]; omega))
      have hx := hx8
      have hTb := hTb.at hFe (by simp)
      have hz6 : zR G M5 z (T, mo, od, ql, q, ln, fl, us) (min (c + 1) 6) (hPush (T, mo, od, ql, q, ln, fl, us) hs) 0 g := ⟨_, _, _, _, _, _, _, s, tr, h, tx, rk, sy, hZ, hs0, ⟨_, htr⟩, hh, ⟨_, _, _, _, _, hx⟩, hk, ⟨_, hy⟩, (fun k hk => absurd hk (Nat.not_lt_zero _))⟩
      refine s_aload_n C 55 dX6_add_54 rfl rfl ?_
      refine s_aload_n C 56 dX6_add_55 rfl rfl ?_
      refine s_invV C 59 0 0 [] (zR_rv hz6) dX6_add_56 rfl m_X6_86 (z_addIf hz6 hTb hIn hTV) rfl rfl rfl ⟨by decide, by decide⟩ (Nat.le_of_ble_eq_true rfl) (by omega) (by omega) ?_
      rintro _ M6 ⟨rfl, hz8, hFr⟩
      dsimp only [Option.toList, List.cons_append, List.nil_append]
      exact s_iret C dX6_add_59 Tr rfl ⟨by rw [if_pos z7, if_neg hnn], by rw [if_pos hyes, if_pos hyes, if_pos hyes, if_pos hyes]; rw [if_neg hnn] at hz8; exact hz8, ((((((hFx.mono (fun t ht => by first | (rw [mem_TH] at ht; rw [mem_TZ]; omega) | (simp at ht; done) | (rw [mem_TZ]; simp at ht; omega)))).tr (hFp.mono (fun t ht => by first | (rw [mem_TH] at ht; rw [mem_TZ]; omega) | (simp at ht; done) | (rw [mem_TZ]; simp at ht; omega))))).tr hF).tr (hFe.mono (fun t ht => by first | (rw [mem_TH] at ht; rw [mem_TZ]; omega) | (simp at ht; done) | (rw [mem_TZ]; simp at ht; omega)))).tr (hFr.mono (fun t ht => by first | (rw [mem_TH] at ht; rw [mem_TZ]; omega) | (simp at ht; done) | (rw [mem_TZ]; simp at ht; omega)))⟩
    · skip
      have hnn : refV T ln fl (fun j => g (0 + j)) n < 0 := by first | exact z31 | exact i32_nle.mp z31
      have hno : ¬ (itB g n = true ∧ ¬ refV T ln fl (fun j => g (0 + j)) n < 0) := fun w7 => w7.2 hnn
      refine s_iload_n C 35 dX6_add_34 rfl rfl ?_
      exact s_iret C dX6_add_35 Tr rfl ⟨by rw [if_pos z7, if_pos hnn]; rfl, by rw [if_neg hno, if_neg hno, if_neg hno, if_neg hno]; exact hz2, (((hFx.mono (fun t ht => by first | (rw [mem_TH] at ht; rw [mem_TZ]; omega) | (simp at ht; done) | (rw [mem_TZ]; simp at ht; omega)))).tr (hFp.mono (fun t ht => by first | (rw [mem_TH] at ht; rw [mem_TZ]; omega) | (simp at ht; done) | (rw [mem_TZ]; simp at ht; omega))))⟩
  · skip
    have hno : ¬ (itB g n = true ∧ ¬ refV T ln fl (fun j => g (0 + j)) n < 0) := fun w7 => by have w8 := w7.1; rw [z7] at w8; cases w8
    refine s_bipush C 12 (-5) dX6_add_10 rfl (by decide) ?_
    exact s_iret C dX6_add_12 Tr rfl ⟨by rw [if_neg (by rw [z7]; decide)], by rw [if_neg hno, if_neg hno, if_neg hno, if_neg hno]; exact ⟨_, _, _, _, _, _, _, s, tr, h, tx, rk, sy, hZ, hs0, ⟨_, htr⟩, hh, ⟨_, _, _, _, _, hx⟩, hk, ⟨_, hy⟩, hch⟩, (hFx.mono (fun t ht => by first | (rw [mem_TH] at ht; rw [mem_TZ]; omega) | (simp at ht; done) | (rw [mem_TZ]; simp at ht; omega)))⟩
