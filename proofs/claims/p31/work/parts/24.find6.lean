/-! with one title more -/
def zB (G : mG) (M : mM) (z : Nat) (x y : mSt) (c : Nat) (hs : Nat → mSt) (n : Nat) (g : Nat → Int32) : Prop := ∃ s tr h tx rk sy, M z = some (6, .inl (7, [.ref s, .ref tr, .ref h, .ref tx, .ref rk, .ref sy])) ∧ sS G M 0 s x ∧ sS G M 1 tr y ∧ hR G M h c hs ∧ (∃ p cmd val fr to, xR M tx n p cmd val fr to g) ∧ (∃ rc rr rp, kR M rk rc rr rp) ∧ (∃ y1 y2 y3 y4 yw, yR M sy y1 y2 y3 y4 yw) ∧ ∀ k, k < n → vp_nar .char (g k) = g k
theorem zB.R {G : mG} {M : mM} {z : Nat} {x y : mSt} {c : Nat} {hs : Nat → mSt} {n : Nat} {g : Nat → Int32} (h : zB G M z x y c hs n g) : zR G M z x c hs n g := by
  obtain ⟨s, tr, h, tx, rk, sy, hZ, hs0, htr, hh, hx, ⟨rc, rr, rp, hk⟩, ⟨y1, y2, y3, y4, hy⟩, hch⟩ := h
  exact ⟨rc, rr, rp, y1, y2, y3, y4, s, tr, h, tx, rk, sy, hZ, hs0, ⟨_, htr⟩, hh, hx, hk, hy, hch⟩
theorem zB_rv {G : mG} {M : mM} {z : Nat} {x y : mSt} {c : Nat} {hs : Nat → mSt} {n : Nat} {g : Nat → Int32} (h : zB G M z x y c hs n g) : mRv G M RX6 z := zR_rv h.R
def chN (T mo : Nat) (ln : Nat → Nat) (fl : Nat → Nat → Int32) (n : Nat) (f : Nat → Int32) : Nat → Nat
  | 0 => 0
  | t + 1 => chN T mo ln fl n f t + (if kyN (T + 1) mo (adF ln T n) (adF fl T f) t = kyN T mo ln fl t then 0 else 1)
theorem chN_le {T mo : Nat} {ln : Nat → Nat} {fl : Nat → Nat → Int32} {n : Nat} {f : Nat → Int32} : ∀ t, chN T mo ln fl n f t ≤ t
  | 0 => Nat.le_refl _
  | t + 1 => by have := chN_le (T := T) (mo := mo) (ln := ln) (fl := fl) (n := n) (f := f) t; rw [chN]; split <;> omega
set_option maxRecDepth 100000 in
set_option maxHeartbeats 4000000 in
theorem z_keyWould {G : mG} {M : mM} {z T mo od ql c n : Nat} {q : Nat → Int32} {ln : Nat → Nat} {fl : Nat → Nat → Int32} {us : Nat → Int32} {hs : Nat → mSt} {g : Nat → Int32} {T2 mo2 od2 ql2 : Nat} {q2 : Nat → Int32} {ln2 : Nat → Nat} {fl2 : Nat → Nat → Int32} {us2 : Nat → Int32} (hz : zB G M z (T, mo, od, ql, q, ln, fl, us) (T2, mo2, od2, ql2, q2, ln2, fl2, us2) c hs n g) {t : Nat} (ht : t < T) (ht2 : t < T2) : CC G iX6_keyWouldChange 0 0 [.ref z, .int (nI t)] M (fun r M1 => r = some (.int (mB (decide (¬ kyN T2 mo2 ln2 fl2 t = kyN T mo ln fl t)))) ∧ zB G M1 z (T, mo, od, ql, q, ln, fl, us) (T2, mo2, od2, ql2, q2, ln2, fl2, us2) c hs n g ∧ mZ [40, 42] M M1) := by
  refine CC.of rfl (Nat.le_of_ble_eq_true rfl) rfl (fun X C Tr => ?_)
  show V X 0 0 0 [some (.ref z), some (.int (nI t)), none, none] [] M
  obtain ⟨s, tr, h, tx, rk, sy, hZ, hs0, htr, hh, ⟨p, cmd, val, fr, to, hx⟩, ⟨rc, rr, rp, hk⟩, ⟨y1, y2, y3, y4, yw, hy⟩, hch⟩ := hz
  obtain ⟨q9, hq9, hqn9, hsR⟩ := hs0.get
  have hsR0 := hsR
  obtain ⟨la, qa, cap, gg, ad, ifn, hS, hL, hQ, hT, hmo, hod, hql, hA⟩ := hsR
  refine s_aload_n C 1 dX6_keyWouldChange_0 rfl rfl ?_
  refine s_getf C 4 dX6_keyWouldChange_1 rfl f_X6_43 hZ rfl ?_
  refine s_aload_n C 5 dX6_keyWouldChange_4 rfl rfl ?_
  refine s_getf C 8 dX6_keyWouldChange_5 rfl f_X6_10 hZ rfl ?_
  refine s_iload_n C 9 dX6_keyWouldChange_8 rfl rfl ?_
  refine s_invV C 12 0 0 [] (yR_rv hy) dX6_keyWouldChange_9 rfl m_X6_148 (c_look (t := t) hsR0 hy (by omega)) rfl rfl rfl ⟨by decide, by decide⟩ (Nat.le_of_ble_eq_true rfl) (by omega) (by omega) ?_
  rintro _ M1 ⟨rfl, ks9, kl9, ss9, sl9, rw9, hy9, hbk, hbs, hFy⟩
  dsimp only [Option.toList, List.cons_append, List.nil_append]
  have hZ := hFy.at hZ (by first | (simp; done) | (simp; omega) | (rw [mem_TH]; omega) | (rw [mem_TZ]; omega))
  have hs0 := hs0.at hFy (by first | (simp; done) | (simp; omega) | (rw [mem_TH]; omega) | (rw [mem_TZ]; omega)) (by first | (simp; done) | (simp; omega) | (rw [mem_TH]; omega) | (rw [mem_TZ]; omega)) (fun j hj => by first | (simp; done) | (simp; omega) | (rw [mem_TH]; omega) | (rw [mem_TZ]; omega))
  have htr := htr.at hFy (by first | (simp; done) | (simp; omega) | (rw [mem_TH]; omega) | (rw [mem_TZ]; omega)) (by first | (simp; done) | (simp; omega) | (rw [mem_TH]; omega) | (rw [mem_TZ]; omega)) (fun j hj => by first | (simp; done) | (simp; omega) | (rw [mem_TH]; omega) | (rw [mem_TZ]; omega))
  have hh := hh.at hFy (by first | (simp; done) | (simp; omega) | (rw [mem_TH]; omega) | (rw [mem_TZ]; omega)) (by first | (simp; done) | (simp; omega) | (rw [mem_TH]; omega) | (rw [mem_TZ]; omega)) (by first | (simp; done) | (simp; omega) | (rw [mem_TH]; omega) | (rw [mem_TZ]; omega)) (fun t ht => by rw [mem_TH] at ht; first | (simp; done) | (simp; omega))
  have hx := hx.at hFy (by first | (simp; done) | (simp; omega) | (rw [mem_TH]; omega) | (rw [mem_TZ]; omega)) (by first | (simp; done) | (simp; omega) | (rw [mem_TH]; omega) | (rw [mem_TZ]; omega))
  have hk := hk.at hFy (by first | (simp; done) | (simp; omega) | (rw [mem_TH]; omega) | (rw [mem_TZ]; omega)) (by first | (simp; done) | (simp; omega) | (rw [mem_TH]; omega) | (rw [mem_TZ]; omega)) (by first | (simp; done) | (simp; omega) | (rw [mem_TH]; omega) | (rw [mem_TZ]; omega))
  have hy := hy9
  have hky := kyN_of hbk (hA t (by omega)).2.2.2
  have hsh := shN_of hbs (hA t (by omega)).2.2.2
  have hsR0 := hsR0.at hFy (by simp) (by simp) (by simp) (by simp) (by simp) (by simp)
  obtain ⟨pA, gA, ra, hY, hyx⟩ := hy9
  obtain ⟨-, -, -, -, hb1, hb2, -, -⟩ := hyx
  obtain ⟨q8, hq8, hqn8, hsT⟩ := htr.get
  have hsT0 := hsT
  obtain ⟨la2, qa2, cap2, gg2, ad2, ifn2, hS2, hL2, hQ2, hT2, hmo2, hod2, hql2, hA2⟩ := hsT
  refine s_aload_n C 13 dX6_keyWouldChange_12 rfl rfl ?_
  refine s_getf C 16 dX6_keyWouldChange_13 rfl f_X6_43 hZ rfl ?_
  refine s_getf C 19 dX6_keyWouldChange_16 rfl f_X6_165 hY rfl ?_
  refine s_istore_n C 20 dX6_keyWouldChange_19 rfl rfl rfl ?_
  dsimp only [List.set]
  refine s_aload_n C 21 dX6_keyWouldChange_20 rfl rfl ?_
  refine s_getf C 24 dX6_keyWouldChange_21 rfl f_X6_43 hZ rfl ?_
  refine s_getf C 27 dX6_keyWouldChange_24 rfl f_X6_168 hY rfl ?_
  refine s_istore_n C 28 dX6_keyWouldChange_27 rfl rfl rfl ?_
  dsimp only [List.set]
  refine s_aload_n C 29 dX6_keyWouldChange_28 rfl rfl ?_
  refine s_getf C 32 dX6_keyWouldChange_29 rfl f_X6_43 hZ rfl ?_
  refine s_aload_n C 33 dX6_keyWouldChange_32 rfl rfl ?_
  refine s_getf C 36 dX6_keyWouldChange_33 rfl f_X6_16 hZ rfl ?_
  refine s_iload_n C 37 dX6_keyWouldChange_36 rfl rfl ?_
  refine s_invV C 40 0 0 [] (yR_rv hy) dX6_keyWouldChange_37 rfl m_X6_148 (c_look (t := t) hsT0 hy (by omega)) rfl rfl rfl ⟨by decide, by decide⟩ (Nat.le_of_ble_eq_true rfl) (by omega) (by omega) ?_
  rintro _ M2 ⟨rfl, ks8, kl8, ss8, sl8, rw8, hy8, hbk2, -, hFy2⟩
  dsimp only [Option.toList, List.cons_append, List.nil_append]
  have hZ := hFy2.at hZ (by first | (simp; done) | (simp; omega) | (rw [mem_TH]; omega) | (rw [mem_TZ]; omega))
  have hs0 := hs0.at hFy2 (by first | (simp; done) | (simp; omega) | (rw [mem_TH]; omega) | (rw [mem_TZ]; omega)) (by first | (simp; done) | (simp; omega) | (rw [mem_TH]; omega) | (rw [mem_TZ]; omega)) (fun j hj => by first | (simp; done) | (simp; omega) | (rw [mem_TH]; omega) | (rw [mem_TZ]; omega))
  have htr := htr.at hFy2 (by first | (simp; done) | (simp; omega) | (rw [mem_TH]; omega) | (rw [mem_TZ]; omega)) (by first | (simp; done) | (simp; omega) | (rw [mem_TH]; omega) | (rw [mem_TZ]; omega)) (fun j hj => by first | (simp; done) | (simp; omega) | (rw [mem_TH]; omega) | (rw [mem_TZ]; omega))
  have hh := hh.at hFy2 (by first | (simp; done) | (simp; omega) | (rw [mem_TH]; omega) | (rw [mem_TZ]; omega)) (by first | (simp; done) | (simp; omega) | (rw [mem_TH]; omega) | (rw [mem_TZ]; omega)) (by first | (simp; done) | (simp; omega) | (rw [mem_TH]; omega) | (rw [mem_TZ]; omega)) (fun t ht => by rw [mem_TH] at ht; first | (simp; done) | (simp; omega))
  have hx := hx.at hFy2 (by first | (simp; done) | (simp; omega) | (rw [mem_TH]; omega) | (rw [mem_TZ]; omega)) (by first | (simp; done) | (simp; omega) | (rw [mem_TH]; omega) | (rw [mem_TZ]; omega))
  have hk := hk.at hFy2 (by first | (simp; done) | (simp; omega) | (rw [mem_TH]; omega) | (rw [mem_TZ]; omega)) (by first | (simp; done) | (simp; omega) | (rw [mem_TH]; omega) | (rw [mem_TZ]; omega)) (by first | (simp; done) | (simp; omega) | (rw [mem_TH]; omega) | (rw [mem_TZ]; omega))
  have hy := hy8
  have hky2 := kyN_of hbk2 (hA2 t (by omega)).2.2.2
  obtain ⟨pA, gA, ra, hY, hyx⟩ := hy8
  obtain ⟨-, -, -, -, hb3, hb4, -, -⟩ := hyx
  refine s_aload_n C 41 dX6_keyWouldChange_40 rfl rfl ?_
  refine s_getf C 44 dX6_keyWouldChange_41 rfl f_X6_43 hZ rfl ?_
  refine s_getf C 47 dX6_keyWouldChange_44 rfl f_X6_165 hY rfl ?_
  refine s_iload_n C 48 dX6_keyWouldChange_47 rfl rfl ?_
  refine s_icmp_neN C 62 51 dX6_keyWouldChange_48 (by decide) rfl (by omega) (by omega) (fun z48 => ?_) (fun z48 => ?_)
  · skip
    refine s_iconst C 63 (nI 1) dX6_keyWouldChange_62 rfl (by decide) ?_
    refine s_goto C 67 dX6_keyWouldChange_63 (by decide) ?_
    exact s_zret C dX6_keyWouldChange_67 Tr rfl (by decide) ⟨rT (decide_eq_true (fun w7 => by rw [hky, hky2] at w7; cases w7; omega)), ⟨s, tr, h, tx, rk, sy, hZ, hs0, htr, hh, ⟨_, _, _, _, _, hx⟩, ⟨_, _, _, hk⟩, ⟨_, _, _, _, _, hy⟩, hch⟩, hFy.tr hFy2⟩
  · skip
    refine s_aload_n C 52 dX6_keyWouldChange_51 rfl rfl ?_
    refine s_getf C 55 dX6_keyWouldChange_52 rfl f_X6_43 hZ rfl ?_
    refine s_getf C 58 dX6_keyWouldChange_55 rfl f_X6_168 hY rfl ?_
    refine s_iload_n C 59 dX6_keyWouldChange_58 rfl rfl ?_
    refine s_icmp_eqN C 66 62 dX6_keyWouldChange_59 (by decide) rfl (by omega) (by omega) (fun z59 => ?_) (fun z59 => ?_)
    · skip
      refine s_iconst C 67 (nI 0) dX6_keyWouldChange_66 rfl (by decide) ?_
      exact s_zret C dX6_keyWouldChange_67 Tr rfl (by decide) ⟨rF (decide_eq_false (fun w7 => w7 (by rw [hky, hky2, z48, z59]))), ⟨s, tr, h, tx, rk, sy, hZ, hs0, htr, hh, ⟨_, _, _, _, _, hx⟩, ⟨_, _, _, hk⟩, ⟨_, _, _, _, _, hy⟩, hch⟩, hFy.tr hFy2⟩
    · skip
      refine s_iconst C 63 (nI 1) dX6_keyWouldChange_62 rfl (by decide) ?_
      refine s_goto C 67 dX6_keyWouldChange_63 (by decide) ?_
      exact s_zret C dX6_keyWouldChange_67 Tr rfl (by decide) ⟨rT (decide_eq_true (fun w7 => by rw [hky, hky2] at w7; cases w7; omega)), ⟨s, tr, h, tx, rk, sy, hZ, hs0, htr, hh, ⟨_, _, _, _, _, hx⟩, ⟨_, _, _, hk⟩, ⟨_, _, _, _, _, hy⟩, hch⟩, hFy.tr hFy2⟩

set_option maxRecDepth 100000 in
set_option maxHeartbeats 4000000 in
theorem z_ifAdded {G : mG} {M : mM} {z T mo od ql c n : Nat} {q : Nat → Int32} {ln : Nat → Nat} {fl : Nat → Nat → Int32} {us : Nat → Int32} {hs : Nat → mSt} {g : Nat → Int32} (hz : zR G M z (T, mo, od, ql, q, ln, fl, us) c hs n g) : CC G iX6_ifAdded 20 426 [.ref z] M (fun r M1 => r = some (.int (if itB g n = true then (if refV T ln fl (fun j => g (0 + j)) n < 0 then refV T ln fl (fun j => g (0 + j)) n else nI (chN T mo ln fl n (fun j => g (0 + j)) T)) else -5)) ∧ zR G M1 z (T, mo, od, ql, q, ln, fl, us) c hs n g ∧ mZ TZ M M1) := by
  refine CC.of rfl (Nat.le_of_ble_eq_true rfl) rfl (fun X C Tr => ?_)
  show V X 20 426 0 [some (.ref z), none, none, none, none] [] M
  obtain ⟨rc, rr, rp, y1, y2, y3, y4, s, tr, h, tx, rk, sy, hZ, hs0, ⟨yt, htr⟩, hh, ⟨p, cmd, val, fr, to, hx⟩, hk, ⟨yw, hy⟩, hch⟩ := hz
  refine s_aload_n C 1 dX6_ifAdded_0 rfl rfl ?_
  refine s_getf C 4 dX6_ifAdded_1 rfl f_X6_29 hZ rfl ?_
  refine s_invV C 7 20 426 [] (xR_rv hx) dX6_ifAdded_4 rfl m_X6_113 (c_isTitle hx) rfl rfl rfl ⟨by decide, by decide⟩ (Nat.le_of_ble_eq_true rfl) (by omega) (by omega) ?_
  rintro _ M1 ⟨rfl, hx9, hFx⟩
  dsimp only [Option.toList, List.cons_append, List.nil_append]
  have hZ := hFx.at hZ (by first | (simp; done) | (simp; omega) | (rw [mem_TH]; omega) | (rw [mem_TZ]; omega))
  have hs0 := hs0.at hFx (by first | (simp; done) | (simp; omega) | (rw [mem_TH]; omega) | (rw [mem_TZ]; omega)) (by first | (simp; done) | (simp; omega) | (rw [mem_TH]; omega) | (rw [mem_TZ]; omega)) (fun j hj => by first | (simp; done) | (simp; omega) | (rw [mem_TH]; omega) | (rw [mem_TZ]; omega))
  have htr := htr.at hFx (by first | (simp; done) | (simp; omega) | (rw [mem_TH]; omega) | (rw [mem_TZ]; omega)) (by first | (simp; done) | (simp; omega) | (rw [mem_TH]; omega) | (rw [mem_TZ]; omega)) (fun j hj => by first | (simp; done) | (simp; omega) | (rw [mem_TH]; omega) | (rw [mem_TZ]; omega))
  have hh := hh.at hFx (by first | (simp; done) | (simp; omega) | (rw [mem_TH]; omega) | (rw [mem_TZ]; omega)) (by first | (simp; done) | (simp; omega) | (rw [mem_TH]; omega) | (rw [mem_TZ]; omega)) (by first | (simp; done) | (simp; omega) | (rw [mem_TH]; omega) | (rw [mem_TZ]; omega)) (fun t ht => by rw [mem_TH] at ht; first | (simp; done) | (simp; omega))
  have hk := hk.at hFx (by first | (simp; done) | (simp; omega) | (rw [mem_TH]; omega) | (rw [mem_TZ]; omega)) (by first | (simp; done) | (simp; omega) | (rw [mem_TH]; omega) | (rw [mem_TZ]; omega)) (by first | (simp; done) | (simp; omega) | (rw [mem_TH]; omega) | (rw [mem_TZ]; omega))
  have hy := hy.at hFx (by first | (simp; done) | (simp; omega) | (rw [mem_TH]; omega) | (rw [mem_TZ]; omega)) (by first | (simp; done) | (simp; omega) | (rw [mem_TH]; omega) | (rw [mem_TZ]; omega)) (by first | (simp; done) | (simp; omega) | (rw [mem_TH]; omega) | (rw [mem_TZ]; omega))
  have hx := hx9
  refine s_if_neB C 13 10 dX6_ifAdded_7 (by decide) rfl (fun z7 => ?_) (fun z7 => ?_)
  · skip
    obtain ⟨he9, hTV, hn24⟩ := itB_TV z7
    rw [he9] at hx
    refine s_aload_n C 14 dX6_ifAdded_13 rfl rfl ?_
    refine s_getf C 17 dX6_ifAdded_14 rfl f_X6_29 hZ rfl ?_
    refine s_invV C 20 17 374 [] (xR_rv hx) dX6_ifAdded_17 rfl m_X6_82 (c_passedTitle hx (by omega) (by omega) (by omega) hch) rfl rfl rfl ⟨by decide, by decide⟩ (Nat.le_of_ble_eq_true rfl) (by omega) (by omega) ?_
    rintro _ M2 ⟨b, i2, rfl, hnb, hIn, hTb, hFp⟩
    dsimp only [Option.toList, List.cons_append, List.nil_append]
    rw [Nat.sub_zero] at hIn hTb
    have hZ := hFp.at hZ (by first | (simp; done) | (simp; omega) | (rw [mem_TH]; omega) | (rw [mem_TZ]; omega))
    have hs0 := hs0.at hFp (by first | (simp; done) | (simp; omega) | (rw [mem_TH]; omega) | (rw [mem_TZ]; omega)) (by first | (simp; done) | (simp; omega) | (rw [mem_TH]; omega) | (rw [mem_TZ]; omega)) (fun j hj => by first | (simp; done) | (simp; omega) | (rw [mem_TH]; omega) | (rw [mem_TZ]; omega))
    have htr := htr.at hFp (by first | (simp; done) | (simp; omega) | (rw [mem_TH]; omega) | (rw [mem_TZ]; omega)) (by first | (simp; done) | (simp; omega) | (rw [mem_TH]; omega) | (rw [mem_TZ]; omega)) (fun j hj => by first | (simp; done) | (simp; omega) | (rw [mem_TH]; omega) | (rw [mem_TZ]; omega))
    have hh := hh.at hFp (by first | (simp; done) | (simp; omega) | (rw [mem_TH]; omega) | (rw [mem_TZ]; omega)) (by first | (simp; done) | (simp; omega) | (rw [mem_TH]; omega) | (rw [mem_TZ]; omega)) (by first | (simp; done) | (simp; omega) | (rw [mem_TH]; omega) | (rw [mem_TZ]; omega)) (fun t ht => by rw [mem_TH] at ht; first | (simp; done) | (simp; omega))
    have hx := hx.at hFp (by first | (simp; done) | (simp; omega) | (rw [mem_TH]; omega) | (rw [mem_TZ]; omega)) (by first | (simp; done) | (simp; omega) | (rw [mem_TH]; omega) | (rw [mem_TZ]; omega))
    have hk := hk.at hFp (by first | (simp; done) | (simp; omega) | (rw [mem_TH]; omega) | (rw [mem_TZ]; omega)) (by first | (simp; done) | (simp; omega) | (rw [mem_TH]; omega) | (rw [mem_TZ]; omega)) (by first | (simp; done) | (simp; omega) | (rw [mem_TH]; omega) | (rw [mem_TZ]; omega))
    have hy := hy.at hFp (by first | (simp; done) | (simp; omega) | (rw [mem_TH]; omega) | (rw [mem_TZ]; omega)) (by first | (simp; done) | (simp; omega) | (rw [mem_TH]; omega) | (rw [mem_TZ]; omega)) (by first | (simp; done) | (simp; omega) | (rw [mem_TH]; omega) | (rw [mem_TZ]; omega))
    obtain ⟨q9, hq9, hqn9, hsR⟩ := hs0.get
    have hsR0 := hsR
    obtain ⟨la, qa, cap, gg, ad, ifn, hS, hL, hQ, hT, hmo, hod, hql, hA⟩ := hsR
    obtain ⟨lb, ib, hOb, hLb, hIb⟩ := hTb
    have hTb : tR M2 b n (fun j => g (0 + j)) (1 + cnB (fun j => g (0 + j)) n) i2 (nI 0) := ⟨lb, ib, hOb, hLb, hIb⟩
    have hz2 : zR G M2 z (T, mo, od, ql, q, ln, fl, us) c hs n g := ⟨_, _, _, _, _, _, _, s, tr, h, tx, rk, sy, hZ, hs0, ⟨_, htr⟩, hh, ⟨_, _, _, _, _, hx⟩, hk, ⟨_, hy⟩, hch⟩
    refine s_astore_n C 21 dX6_ifAdded_20 rfl rfl rfl ?_
    dsimp only [List.set]
    refine s_aload_n C 22 dX6_ifAdded_21 rfl rfl ?_
    refine s_getf C 25 dX6_ifAdded_22 rfl f_X6_10 hZ rfl ?_
    refine s_aload_n C 26 dX6_ifAdded_25 rfl rfl ?_
    refine s_invV C 29 17 374 [] (sR_rv hsR0) dX6_ifAdded_26 rfl m_X6_116 (c_refusal hsR0 hOb hLb hIb hn24) rfl rfl rfl ⟨by decide, by decide⟩ (Nat.le_of_ble_eq_true rfl) (by omega) (by omega) ?_
    rintro _ M3 ⟨rfl, rfl⟩
    dsimp only [Option.toList, List.cons_append, List.nil_append]
    refine s_istore_n C 30 dX6_ifAdded_29 rfl rfl rfl ?_
    dsimp only [List.set]
    refine s_iload_n C 31 dX6_ifAdded_30 rfl rfl ?_
    refine s_if_ge C 36 34 dX6_ifAdded_31 (by decide) rfl (fun z31 => ?_) (fun z31 => ?_)
    · skip
      have hnn : ¬ refV T ln fl (fun j => g (0 + j)) n < 0 := i32_le.mp z31
      have hT15 := ((refV_lt (T := T) (ln := ln) (fl := fl) (f := (fun j => g (0 + j))) (n := n)).resolve_left hnn).2.2
      refine s_aload_n C 37 dX6_ifAdded_36 rfl rfl ?_
      refine s_getf C 40 dX6_ifAdded_37 rfl f_X6_16 hZ rfl ?_
      refine s_aload_n C 41 dX6_ifAdded_40 rfl rfl ?_
      refine s_getf C 44 dX6_ifAdded_41 rfl f_X6_10 hZ rfl ?_
      obtain ⟨q8, hq8, hqn8, hsT⟩ := htr
      refine s_invV C 47 1 22 [] (sR_rv hsT) dX6_ifAdded_44 rfl m_X6_183 (c_copyFrom hsT hsR0 (by decide) hqn9) rfl rfl rfl ⟨by decide, by decide⟩ (Nat.le_of_ble_eq_true rfl) (by omega) (by omega) ?_
      rintro _ M4 ⟨rfl, qj, hqj, hs3, hFc⟩
      dsimp only [Option.toList, List.cons_append, List.nil_append]
      have hZ := hFc.at hZ (by first | (simp; done) | (simp; omega) | (rw [mem_TH]; omega) | (rw [mem_TZ]; omega))
      have hs0 := hs0.at hFc (by first | (simp; done) | (simp; omega) | (rw [mem_TH]; omega) | (rw [mem_TZ]; omega)) (by first | (simp; done) | (simp; omega) | (rw [mem_TH]; omega) | (rw [mem_TZ]; omega)) (fun j hj => by first | (simp; done) | (simp; omega) | (rw [mem_TH]; omega) | (rw [mem_TZ]; omega))
      have hh := hh.at hFc (by first | (simp; done) | (simp; omega) | (rw [mem_TH]; omega) | (rw [mem_TZ]; omega)) (by first | (simp; done) | (simp; omega) | (rw [mem_TH]; omega) | (rw [mem_TZ]; omega)) (by first | (simp; done) | (simp; omega) | (rw [mem_TH]; omega) | (rw [mem_TZ]; omega)) (fun t ht => by rw [mem_TH] at ht; first | (simp; done) | (simp; omega))
      have hx := hx.at hFc (by first | (simp; done) | (simp; omega) | (rw [mem_TH]; omega) | (rw [mem_TZ]; omega)) (by first | (simp; done) | (simp; omega) | (rw [mem_TH]; omega) | (rw [mem_TZ]; omega))
      have hk := hk.at hFc (by first | (simp; done) | (simp; omega) | (rw [mem_TH]; omega) | (rw [mem_TZ]; omega)) (by first | (simp; done) | (simp; omega) | (rw [mem_TH]; omega) | (rw [mem_TZ]; omega)) (by first | (simp; done) | (simp; omega) | (rw [mem_TH]; omega) | (rw [mem_TZ]; omega))
      have hy := hy.at hFc (by first | (simp; done) | (simp; omega) | (rw [mem_TH]; omega) | (rw [mem_TZ]; omega)) (by first | (simp; done) | (simp; omega) | (rw [mem_TH]; omega) | (rw [mem_TZ]; omega)) (by first | (simp; done) | (simp; omega) | (rw [mem_TH]; omega) | (rw [mem_TZ]; omega))
      have hTb := hTb.at hFc (by simp)
      have hOb := hFc.at hOb (by simp)
      obtain ⟨la2, qa2, cap2, gg2, ad2, ifn2, hS2, hL2, hQ2, hT2, hmo2, hod2, hql2, hA2⟩ := hs3
      refine s_aload_n C 48 dX6_ifAdded_47 rfl rfl ?_
      refine s_getf C 51 dX6_ifAdded_48 rfl f_X6_16 hZ rfl ?_
      refine s_getf C 54 dX6_ifAdded_51 rfl f_X6_119 hS2 rfl ?_
      refine s_aload_n C 55 dX6_ifAdded_54 rfl rfl ?_
      have hTi : ∀ k, k < T → ∀ y, gg2 k = some y → ∃ fs, M4 y = some (1, .inl (6, fs)) := fun k hk y hy => by rw [(hA2 k hk).1] at hy; cases hy; obtain ⟨l9, i9, h9, -⟩ := (hA2 k hk).2.1; exact ⟨_, h9⟩
      refine s_invV C 58 0 0 [] (lR_rv hL2) dX6_ifAdded_55 rfl m_X6_123 (c_add hL2 (by decide) (by decide) (by decide) (by decide) (by decide) hTi hOb (by decide) (by decide) (by omega)) rfl rfl rfl ⟨by decide, by decide⟩ (Nat.le_of_ble_eq_true rfl) (by omega) (by omega) ?_
      rintro _ M5 ⟨rfl, cap3, g3, hL3, hg2, hgT, hFr⟩
      dsimp only [Option.toList, List.cons_append, List.nil_append]
      have htr9 : sS G M5 1 tr (T + 1, mo, od, ql, q, adF ln T n, adF fl T (fun j => g (0 + j)), adF us T (nI 0)) := sS.mk (q9 := qj) (fun y hy => (hqj y (by omega)).trans (hq9 y hy)) (fun y hy => by rw [hqj y hy]; exact hqn9 y hy) ⟨la2, qa2, cap3, g3, adF ad2 T b, adF ifn2 T i2, hFr.at hS2 (by simp), hL3, hFr.at hQ2 (by simp), by omega, hmo2, hod2, hql2, fun i hi => by unfold adF; by_cases e : i = T; (· simp only [if_pos e]; rw [e]; exact ⟨hgT, hTb.at hFr (by simp), hIn, hTV⟩); simp only [if_neg e]; rw [hg2 i (by omega)]; exact ⟨(hA2 i (by omega)).1, (hA2 i (by omega)).2.1.at hFr (by simp), (hA2 i (by omega)).2.2⟩⟩
      have hZ := hFr.at hZ (by first | (simp; done) | (simp; omega) | (rw [mem_TH]; omega) | (rw [mem_TZ]; omega))
      have hs0 := hs0.at hFr (by first | (simp; done) | (simp; omega) | (rw [mem_TH]; omega) | (rw [mem_TZ]; omega)) (by first | (simp; done) | (simp; omega) | (rw [mem_TH]; omega) | (rw [mem_TZ]; omega)) (fun j hj => by first | (simp; done) | (simp; omega) | (rw [mem_TH]; omega) | (rw [mem_TZ]; omega))
      have hh := hh.at hFr (by first | (simp; done) | (simp; omega) | (rw [mem_TH]; omega) | (rw [mem_TZ]; omega)) (by first | (simp; done) | (simp; omega) | (rw [mem_TH]; omega) | (rw [mem_TZ]; omega)) (by first | (simp; done) | (simp; omega) | (rw [mem_TH]; omega) | (rw [mem_TZ]; omega)) (fun t ht => by rw [mem_TH] at ht; first | (simp; done) | (simp; omega))
      have hx := hx.at hFr (by first | (simp; done) | (simp; omega) | (rw [mem_TH]; omega) | (rw [mem_TZ]; omega)) (by first | (simp; done) | (simp; omega) | (rw [mem_TH]; omega) | (rw [mem_TZ]; omega))
      have hk := hk.at hFr (by first | (simp; done) | (simp; omega) | (rw [mem_TH]; omega) | (rw [mem_TZ]; omega)) (by first | (simp; done) | (simp; omega) | (rw [mem_TH]; omega) | (rw [mem_TZ]; omega)) (by first | (simp; done) | (simp; omega) | (rw [mem_TH]; omega) | (rw [mem_TZ]; omega))
      have hy := hy.at hFr (by first | (simp; done) | (simp; omega) | (rw [mem_TH]; omega) | (rw [mem_TZ]; omega)) (by first | (simp; done) | (simp; omega) | (rw [mem_TH]; omega) | (rw [mem_TZ]; omega)) (by first | (simp; done) | (simp; omega) | (rw [mem_TH]; omega) | (rw [mem_TZ]; omega))
      have htr := htr9
      have hzB : zB G M5 z (T, mo, od, ql, q, ln, fl, us) (T + 1, mo, od, ql, q, adF ln T n, adF fl T (fun j => g (0 + j)), adF us T (nI 0)) c hs n g := ⟨s, tr, h, tx, rk, sy, hZ, hs0, htr, hh, ⟨_, _, _, _, _, hx⟩, ⟨_, _, _, hk⟩, ⟨_, _, _, _, _, hy⟩, hch⟩
      refine s_pop C 59 dX6_ifAdded_58 rfl rfl ?_
      refine s_iconst C 60 (nI 0) dX6_ifAdded_59 rfl (by decide) ?_
      refine s_istore_n C 61 dX6_ifAdded_60 rfl rfl rfl ?_
      dsimp only [List.set]
      refine s_iconst C 62 (nI 0) dX6_ifAdded_61 rfl (by decide) ?_
      refine s_istore C 64 dX6_ifAdded_62 rfl rfl rfl ?_
      dsimp only [List.set]
      have hFq : mZ TZ M M5 := ((((hFx.mono (fun t ht => by first | (rw [mem_TH] at ht; rw [mem_TZ]; omega) | (simp at ht; done) | (rw [mem_TZ]; simp at ht; omega)))).tr (hFp.mono (fun t ht => by first | (rw [mem_TH] at ht; rw [mem_TZ]; omega) | (simp at ht; done) | (rw [mem_TZ]; simp at ht; omega)))).tr (hFc.mono (fun t ht => by first | (rw [mem_TH] at ht; rw [mem_TZ]; omega) | (simp at ht; done) | (rw [mem_TZ]; simp at ht; omega)))).tr (hFr.mono (fun t ht => by first | (rw [mem_TH] at ht; rw [mem_TZ]; omega) | (simp at ht; done) | (rw [mem_TZ]; simp at ht; omega)))
      refine V.drop 1 ?_
      dsimp only [List.set]
      refine V.drop 2 ?_
      dsimp only [List.set]
      suffices lp64 : ∀ (fu64 : Nat) (t : Nat) (M9 : mM), T - t < fu64 → t ≤ T → zB G M9 z (T, mo, od, ql, q, ln, fl, us) (T + 1, mo, od, ql, q, adF ln T n, adF fl T (fun j => g (0 + j)), adF us T (nI 0)) c hs n g → mZ TZ M M9 → V X 0 0 64 [some (.ref z), none, none, some (.int (nI (chN T mo ln fl n (fun j => g (0 + j)) t))), some (.int (nI t))] [] M9 from lp64 (T + 1) 0 _ (by omega) (by omega) hzB hFq
      intro fu64
      induction fu64 with
      | zero => intro t M9 ht0 ht hzB hFq; omega
      | succ fu64 ih64 =>
        intro t M9 ht0 ht hzB hFq
        have hzBc := hzB
        obtain ⟨s, tr, h, tx, rk, sy, hZ, hs0, htr, hh, ⟨p, cmd, val, fr, to, hx⟩, ⟨rc, rr, rp, hk⟩, ⟨y1, y2, y3, y4, yw, hy⟩, hch⟩ := hzBc
        obtain ⟨q9, hq9, hqn9, hsR⟩ := hs0.get
        have hsR0 := hsR
        obtain ⟨la, qa, cap, gg, ad, ifn, hS, hL, hQ, hT, hmo, hod, hql, hA⟩ := hsR
        have hcl := chN_le (T := T) (mo := mo) (ln := ln) (fl := fl) (n := n) (f := (fun j => g (0 + j))) t
        refine s_iload C 66 dX6_ifAdded_64 rfl rfl ?_
        refine s_aload_n C 67 dX6_ifAdded_66 rfl rfl ?_
        refine s_getf C 70 dX6_ifAdded_67 rfl f_X6_10 hZ rfl ?_
        refine s_getf C 73 dX6_ifAdded_70 rfl f_X6_119 hS rfl ?_
        refine s_invV C 76 0 0 [.int (nI t)] (lR_rv hL) dX6_ifAdded_73 rfl m_X6_129 (c_size hL) rfl rfl rfl ⟨by decide, by decide⟩ (Nat.le_of_ble_eq_true rfl) (by omega) (by omega) ?_
        rintro _ M6 ⟨rfl, rfl⟩
        dsimp only [Option.toList, List.cons_append, List.nil_append]
        refine s_icmp_geN C 97 79 dX6_ifAdded_76 (by decide) rfl (by omega) (by omega) (fun z76 => ?_) (fun z76 => ?_)
        · skip
          have ht9 : t = T := by omega
          refine s_iload_n C 98 dX6_ifAdded_97 rfl rfl ?_
          exact s_iret C dX6_ifAdded_98 Tr rfl ⟨by rw [if_pos z7, if_neg hnn, ht9], hzB.R, hFq⟩
        · skip
          refine s_aload_n C 80 dX6_ifAdded_79 rfl rfl ?_
          refine s_iload C 82 dX6_ifAdded_80 rfl rfl ?_
          refine s_invV C 85 0 0 [] (zB_rv hzB) dX6_ifAdded_82 rfl m_X6_186 (z_keyWould hzB (t := t) (by omega) (by omega)) rfl rfl rfl ⟨by decide, by decide⟩ (Nat.le_of_ble_eq_true rfl) (by omega) (by omega) ?_
          rintro _ M7 ⟨rfl, hzB8, hFw⟩
          dsimp only [Option.toList, List.cons_append, List.nil_append]
          refine s_if_eqB C 91 88 dX6_ifAdded_85 (by decide) rfl (fun z85 => ?_) (fun z85 => ?_)
          · skip
            have hkq := Classical.not_not.mp (of_decide_eq_false z85)
            refine s_iinc C 94 (nI (t + 1)) dX6_ifAdded_91 rfl rfl (by rw [← nI_add]; rfl) rfl ?_
            dsimp only [List.set]
            refine s_goto C 64 dX6_ifAdded_94 (by decide) ?_
            rw [show chN T mo ln fl n (fun j => g (0 + j)) t = chN T mo ln fl n (fun j => g (0 + j)) (t + 1) by rw [chN]; first | (rw [if_neg hkq]; done) | (rw [if_pos hkq]; done) | (rw [if_pos hkq]; rfl)]
            exact ih64 (t + 1) _ (by omega) (by omega) hzB8 (hFq.tr (hFw.mono (fun t ht => by first | (rw [mem_TH] at ht; rw [mem_TZ]; omega) | (simp at ht; done) | (rw [mem_TZ]; simp at ht; omega))))
          · skip
            have hkq := of_decide_eq_true z85
            refine s_iinc C 91 (nI (chN T mo ln fl n (fun j => g (0 + j)) t + 1)) dX6_ifAdded_88 rfl rfl (by rw [← nI_add]; rfl) rfl ?_
            dsimp only [List.set]
            refine s_iinc C 94 (nI (t + 1)) dX6_ifAdded_91 rfl rfl (by rw [← nI_add]; rfl) rfl ?_
            dsimp only [List.set]
            refine s_goto C 64 dX6_ifAdded_94 (by decide) ?_
            rw [show (chN T mo ln fl n (fun j => g (0 + j)) t) + 1 = chN T mo ln fl n (fun j => g (0 + j)) (t + 1) by rw [chN]; first | (rw [if_neg hkq]; done) | (rw [if_pos hkq]; done) | (rw [if_pos hkq]; rfl)]
            exact ih64 (t + 1) _ (by omega) (by omega) hzB8 (hFq.tr (hFw.mono (fun t ht => by first | (rw [mem_TH] at ht; rw [mem_TZ]; omega) | (simp at ht; done) | (rw [mem_TZ]; simp at ht; omega))))
    · skip
      have hnn : refV T ln fl (fun j => g (0 + j)) n < 0 := by first | exact z31 | exact i32_nle.mp z31
      refine s_iload_n C 35 dX6_ifAdded_34 rfl rfl ?_
      exact s_iret C dX6_ifAdded_35 Tr rfl ⟨by rw [if_pos z7, if_pos hnn]; rfl, hz2, (((hFx.mono (fun t ht => by first | (rw [mem_TH] at ht; rw [mem_TZ]; omega) | (simp at ht; done) | (rw [mem_TZ]; simp at ht; omega)))).tr (hFp.mono (fun t ht => by first | (rw [mem_TH] at ht; rw [mem_TZ]; omega) | (simp at ht; done) | (rw [mem_TZ]; simp at ht; omega))))⟩
  · skip
    refine s_bipush C 12 (-5) dX6_ifAdded_10 rfl (by decide) ?_
    exact s_iret C dX6_ifAdded_12 Tr rfl ⟨by rw [if_neg (by rw [z7]; decide)], ⟨_, _, _, _, _, _, _, s, tr, h, tx, rk, sy, hZ, hs0, ⟨_, htr⟩, hh, ⟨_, _, _, _, _, hx⟩, hk, ⟨_, hy⟩, hch⟩, (hFx.mono (fun t ht => by first | (rw [mem_TH] at ht; rw [mem_TZ]; omega) | (simp at ht; done) | (rw [mem_TZ]; simp at ht; omega)))⟩
