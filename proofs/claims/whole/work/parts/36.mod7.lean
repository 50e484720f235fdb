theorem oI_some {o : Option Nat} (h : o.isSome = true) : oI o = nI (o.getD 0) := by
  cases o with
  | none => cases h
  | some j => rfl
theorem rkN_in {T mo od ql t : Nat} {q : Nat → Int32} {ln : Nat → Nat} {fl : Nat → Nat → Int32} {us : Nat → Int32} : (rkN T mo od ql q ln fl us t).1 ≤ t ∧ ∀ k, k < (rkN T mo od ql q ln fl us t).1 → (rkN T mo od ql q ln fl us t).2 k < t ∧ (pmO mo ql q (ln ((rkN T mo od ql q ln fl us t).2 k)) (fl ((rkN T mo od ql q ln fl us t).2 k))).isSome = true :=
  rkS_in (B := fun x y => cbB od x ((pmO mo ql q (ln x) (fl x)).getD 0) y ((pmO mo ql q (ln y) (fl y)).getD 0) ln fl us) (pm := fun x => pmO mo ql q (ln x) (fl x)) t
set_option maxRecDepth 100000 in
set_option maxHeartbeats 4000000 in
theorem nn_resultsMany {G : mG} {M : mM} {m T mo od ql c tl : Nat} {q : Nat → Int32} {ln : Nat → Nat} {fl : Nat → Nat → Int32} {us : Nat → Int32} {hs : Nat → mSt} {g : Nat → Int32} (hn : nR M m (T, mo, od, ql, q, ln, fl, us) c hs tl g)  : CC G iX7_resultsMany 0 0 [.ref m] M (fun r M1 => r = some (.int (nI (rkN T mo od ql q ln fl us T).1)) ∧ nR M1 m (T, mo, od, ql, q, ln, fl, us) c hs tl g ∧ mZ TM M M1) := by
  refine CC.of rfl (Nat.le_of_ble_eq_true rfl) rfl (fun X C Tr => ?_)
  show V X 0 0 0 [some (.ref m)] [] M
  obtain ⟨sa, ha, xa, ra, la, qa, al, ka, rm, pa, fs, fe, za, wa, ua, ap, cm, nu, be, en, S, H, xt, so, sn, Q, K, P, Z, W, U, hO, hS, hx, hH, hHr, hc6, hX, hXg, htl, hSo, hSn, hQ, hK, hP, hZ, hW, hU, hok⟩ := hn.get
  have hx8 := hx
  obtain ⟨hx0, hx1, hx2, hx3, hxq, hxt⟩ := hx
  have hT16 := hok.T16
  have hm4 := hok.m4
  have ho3 := hok.o3
  have hq24 := hok.q24
  refine s_aload_n C 1 dX7_resultsMany_0 rfl rfl ?_
  refine s_invV C 4 0 0 [] (mRv_of hO rfl) dX7_resultsMany_1 rfl m_X7_210 (n_findResults hO hS hx8 hok hSo hSn hQ hK hP) rfl rfl rfl ⟨by decide, by decide⟩ (Nat.le_of_ble_eq_true rfl) (by omega) (by omega) ?_
  rintro _ M1 ⟨rfl, hO7, ⟨so7, sn7, hSo7, hSn7, hsr⟩, ⟨Q7, hQ7⟩, ⟨K7, hK7, hKk⟩, ⟨P7, hP7, hPp⟩, hFf⟩
  dsimp only [Option.toList, List.cons_append, List.nil_append]
  have hS := hFf.at hS (by decide)
  have hX := hFf.at hX (by decide)
  have hH := hFf.at hH (by decide)
  have hZ := hFf.at hZ (by decide)
  have hW := hFf.at hW (by decide)
  have hU := hFf.at hU (by decide)
  have hO := hO7
  have hSo := hSo7
  have hSn := hSn7
  have hQ := hQ7
  have hK := hK7
  have hP := hP7
  refine s_aload_n C 5 dX7_resultsMany_4 rfl rfl ?_
  refine s_getf C 8 dX7_resultsMany_5 rfl f_X7_93 hO rfl ?_
  exact s_iret C dX7_resultsMany_8 Tr rfl ⟨rfl, ⟨_, _, _, _, _, _, _, _, _, _, _, _, _, _, _, _, _, _, _, _, _, _, _, _, _, _, _, _, _, _, _, hO, hS, hx8, hH, hHr, hc6, hX, hXg, htl, hSo, hSn, hQ, hK, hP, hZ, hW, hU, hok⟩, (hFf.mono (by decide))⟩

set_option maxRecDepth 100000 in
set_option maxHeartbeats 4000000 in
theorem nn_results {G : mG} {M : mM} {m T mo od ql c tl : Nat} {q : Nat → Int32} {ln : Nat → Nat} {fl : Nat → Nat → Int32} {us : Nat → Int32} {hs : Nat → mSt} {g : Nat → Int32} (hn : nR M m (T, mo, od, ql, q, ln, fl, us) c hs tl g)  : CC G iX7_results 0 0 [.ref m] M (fun r M1 => r = some (.int (nI (rkN T mo od ql q ln fl us T).1)) ∧ nR M1 m (T, mo, od, ql, q, ln, fl, us) c hs tl g ∧ mZ TM M M1) := by
  refine CC.of rfl (Nat.le_of_ble_eq_true rfl) rfl (fun X C Tr => ?_)
  show V X 0 0 0 [some (.ref m)] [] M
  refine s_aload_n C 1 dX7_results_0 rfl rfl ?_
  refine s_invV C 4 0 0 [] (nR_rv hn) dX7_results_1 rfl m_X7_261 (nn_resultsMany hn) rfl rfl rfl ⟨by decide, by decide⟩ (Nat.le_of_ble_eq_true rfl) (by omega) (by omega) ?_
  rintro _ M1 ⟨rfl, hn7, hFm⟩
  dsimp only [Option.toList, List.cons_append, List.nil_append]
  exact s_iret C dX7_results_4 Tr rfl ⟨rfl, hn7, hFm⟩

set_option maxRecDepth 100000 in
set_option maxHeartbeats 4000000 in
theorem nn_result {G : mG} {M : mM} {m T mo od ql c tl : Nat} {q : Nat → Int32} {ln : Nat → Nat} {fl : Nat → Nat → Int32} {us : Nat → Int32} {hs : Nat → mSt} {g : Nat → Int32} (hn : nR M m (T, mo, od, ql, q, ln, fl, us) c hs tl g) {a : Int32} : CC G iX7_result 0 0 [.ref m, .int a] M (fun r M1 => r = some (.int (if isIx a (rkN T mo od ql q ln fl us T).1 = true then nI ((rkN T mo od ql q ln fl us T).2 a.toNatClampNeg) else -1)) ∧ nR M1 m (T, mo, od, ql, q, ln, fl, us) c hs tl g ∧ mZ TM M M1) := by
  refine CC.of rfl (Nat.le_of_ble_eq_true rfl) rfl (fun X C Tr => ?_)
  show V X 0 0 0 [some (.ref m), some (.int a)] [] M
  obtain ⟨sa, ha, xa, ra, la, qa, al, ka, rm, pa, fs, fe, za, wa, ua, ap, cm, nu, be, en, S, H, xt, so, sn, Q, K, P, Z, W, U, hO, hS, hx, hH, hHr, hc6, hX, hXg, htl, hSo, hSn, hQ, hK, hP, hZ, hW, hU, hok⟩ := hn.get
  have hx8 := hx
  obtain ⟨hx0, hx1, hx2, hx3, hxq, hxt⟩ := hx
  have hT16 := hok.T16
  have hm4 := hok.m4
  have ho3 := hok.o3
  have hq24 := hok.q24
  have hki := (rkN_in (T := T) (mo := mo) (od := od) (ql := ql) (q := q) (ln := ln) (fl := fl) (us := us) (t := T))
  refine s_aload_n C 1 dX7_result_0 rfl rfl ?_
  refine s_iload_n C 2 dX7_result_1 rfl rfl ?_
  refine s_invV C 5 0 0 [] (mRv_of hO rfl) dX7_result_2 rfl m_X7_219 (n_isRank hO hS hx8 hok hSo hSn hQ hK hP (a := a)) rfl rfl rfl ⟨by decide, by decide⟩ (Nat.le_of_ble_eq_true rfl) (by omega) (by omega) ?_
  rintro _ M1 ⟨rfl, hO7, ⟨so7, sn7, hSo7, hSn7, hsr⟩, ⟨Q7, hQ7⟩, ⟨K7, hK7, hKk⟩, ⟨P7, hP7, hPp⟩, hFf⟩
  dsimp only [Option.toList, List.cons_append, List.nil_append]
  have hS := hFf.at hS (by decide)
  have hX := hFf.at hX (by decide)
  have hH := hFf.at hH (by decide)
  have hZ := hFf.at hZ (by decide)
  have hW := hFf.at hW (by decide)
  have hU := hFf.at hU (by decide)
  have hO := hO7
  have hSo := hSo7
  have hSn := hSn7
  have hQ := hQ7
  have hK := hK7
  have hP := hP7
  refine s_if_eqB C 17 8 dX7_result_5 (by decide) rfl (fun z5 => ?_) (fun z5 => ?_)
  · skip
    have hz9 := z5
    refine s_iconst C 18 (-1) dX7_result_17 rfl (by decide) ?_
    exact s_iret C dX7_result_18 Tr rfl ⟨by rw [hz9]; rfl, ⟨_, _, _, _, _, _, _, _, _, _, _, _, _, _, _, _, _, _, _, _, _, _, _, _, _, _, _, _, _, _, _, hO, hS, hx8, hH, hHr, hc6, hX, hXg, htl, hSo, hSn, hQ, hK, hP, hZ, hW, hU, hok⟩, (hFf.mono (by decide))⟩
  · skip
    obtain ⟨k, hk9, hqk⟩ := isIx_of (x := a) (c := (rkN T mo od ql q ln fl us T).1) z5 (by omega)
    subst hqk
    obtain ⟨hkl, hks⟩ := hki.2 k hk9
    have hPk : P7 ((rkN T mo od ql q ln fl us T).2 k) = nI (plN mo ql q ln fl ((rkN T mo od ql q ln fl us T).2 k)) := by rw [hPp _ hkl, oI_some hks]; rfl
    refine s_aload_n C 9 dX7_result_8 rfl rfl ?_
    refine s_getf C 12 dX7_result_9 rfl f_X7_28 hO rfl ?_
    refine s_iload_n C 13 dX7_result_12 rfl rfl ?_
    refine s_iald C 14 dX7_result_13 rfl hK (by omega) (by omega) ?_
    rw [hKk k hk9]
    refine s_goto C 18 dX7_result_14 (by decide) ?_
    exact s_iret C dX7_result_18 Tr rfl ⟨by rw [isIx_nI hk9 (by omega), if_pos rfl, nI_clamp (by omega)], ⟨_, _, _, _, _, _, _, _, _, _, _, _, _, _, _, _, _, _, _, _, _, _, _, _, _, _, _, _, _, _, _, hO, hS, hx8, hH, hHr, hc6, hX, hXg, htl, hSo, hSn, hQ, hK, hP, hZ, hW, hU, hok⟩, (hFf.mono (by decide))⟩

set_option maxRecDepth 100000 in
set_option maxHeartbeats 4000000 in
theorem nn_matchPlace {G : mG} {M : mM} {m T mo od ql c tl : Nat} {q : Nat → Int32} {ln : Nat → Nat} {fl : Nat → Nat → Int32} {us : Nat → Int32} {hs : Nat → mSt} {g : Nat → Int32} (hn : nR M m (T, mo, od, ql, q, ln, fl, us) c hs tl g) {a : Int32} : CC G iX7_matchPlace 0 0 [.ref m, .int a] M (fun r M1 => r = some (.int (if isIx a (rkN T mo od ql q ln fl us T).1 = true then nI (plN mo ql q ln fl ((rkN T mo od ql q ln fl us T).2 a.toNatClampNeg)) else -1)) ∧ nR M1 m (T, mo, od, ql, q, ln, fl, us) c hs tl g ∧ mZ TM M M1) := by
  refine CC.of rfl (Nat.le_of_ble_eq_true rfl) rfl (fun X C Tr => ?_)
  show V X 0 0 0 [some (.ref m), some (.int a)] [] M
  obtain ⟨sa, ha, xa, ra, la, qa, al, ka, rm, pa, fs, fe, za, wa, ua, ap, cm, nu, be, en, S, H, xt, so, sn, Q, K, P, Z, W, U, hO, hS, hx, hH, hHr, hc6, hX, hXg, htl, hSo, hSn, hQ, hK, hP, hZ, hW, hU, hok⟩ := hn.get
  have hx8 := hx
  obtain ⟨hx0, hx1, hx2, hx3, hxq, hxt⟩ := hx
  have hT16 := hok.T16
  have hm4 := hok.m4
  have ho3 := hok.o3
  have hq24 := hok.q24
  have hki := (rkN_in (T := T) (mo := mo) (od := od) (ql := ql) (q := q) (ln := ln) (fl := fl) (us := us) (t := T))
  refine s_aload_n C 1 dX7_matchPlace_0 rfl rfl ?_
  refine s_iload_n C 2 dX7_matchPlace_1 rfl rfl ?_
  refine s_invV C 5 0 0 [] (mRv_of hO rfl) dX7_matchPlace_2 rfl m_X7_219 (n_isRank hO hS hx8 hok hSo hSn hQ hK hP (a := a)) rfl rfl rfl ⟨by decide, by decide⟩ (Nat.le_of_ble_eq_true rfl) (by omega) (by omega) ?_
  rintro _ M1 ⟨rfl, hO7, ⟨so7, sn7, hSo7, hSn7, hsr⟩, ⟨Q7, hQ7⟩, ⟨K7, hK7, hKk⟩, ⟨P7, hP7, hPp⟩, hFf⟩
  dsimp only [Option.toList, List.cons_append, List.nil_append]
  have hS := hFf.at hS (by decide)
  have hX := hFf.at hX (by decide)
  have hH := hFf.at hH (by decide)
  have hZ := hFf.at hZ (by decide)
  have hW := hFf.at hW (by decide)
  have hU := hFf.at hU (by decide)
  have hO := hO7
  have hSo := hSo7
  have hSn := hSn7
  have hQ := hQ7
  have hK := hK7
  have hP := hP7
  refine s_if_eqB C 22 8 dX7_matchPlace_5 (by decide) rfl (fun z5 => ?_) (fun z5 => ?_)
  · skip
    have hz9 := z5
    refine s_iconst C 23 (-1) dX7_matchPlace_22 rfl (by decide) ?_
    exact s_iret C dX7_matchPlace_23 Tr rfl ⟨by rw [hz9]; rfl, ⟨_, _, _, _, _, _, _, _, _, _, _, _, _, _, _, _, _, _, _, _, _, _, _, _, _, _, _, _, _, _, _, hO, hS, hx8, hH, hHr, hc6, hX, hXg, htl, hSo, hSn, hQ, hK, hP, hZ, hW, hU, hok⟩, (hFf.mono (by decide))⟩
  · skip
    obtain ⟨k, hk9, hqk⟩ := isIx_of (x := a) (c := (rkN T mo od ql q ln fl us T).1) z5 (by omega)
    subst hqk
    obtain ⟨hkl, hks⟩ := hki.2 k hk9
    have hPk : P7 ((rkN T mo od ql q ln fl us T).2 k) = nI (plN mo ql q ln fl ((rkN T mo od ql q ln fl us T).2 k)) := by rw [hPp _ hkl, oI_some hks]; rfl
    refine s_aload_n C 9 dX7_matchPlace_8 rfl rfl ?_
    refine s_getf C 12 dX7_matchPlace_9 rfl f_X7_31 hO rfl ?_
    refine s_aload_n C 13 dX7_matchPlace_12 rfl rfl ?_
    refine s_getf C 16 dX7_matchPlace_13 rfl f_X7_28 hO rfl ?_
    refine s_iload_n C 17 dX7_matchPlace_16 rfl rfl ?_
    refine s_iald C 18 dX7_matchPlace_17 rfl hK (by omega) (by omega) ?_
    rw [hKk k hk9]
    refine s_iald C 19 dX7_matchPlace_18 rfl hP (by omega) (by omega) ?_
    rw [hPk]
    refine s_goto C 23 dX7_matchPlace_19 (by decide) ?_
    exact s_iret C dX7_matchPlace_23 Tr rfl ⟨by rw [isIx_nI hk9 (by omega), if_pos rfl, nI_clamp (by omega)], ⟨_, _, _, _, _, _, _, _, _, _, _, _, _, _, _, _, _, _, _, _, _, _, _, _, _, _, _, _, _, _, _, hO, hS, hx8, hH, hHr, hc6, hX, hXg, htl, hSo, hSn, hQ, hK, hP, hZ, hW, hU, hok⟩, (hFf.mono (by decide))⟩

set_option maxRecDepth 100000 in
set_option maxHeartbeats 4000000 in
theorem nn_pick {G : mG} {M : mM} {m T mo od ql c tl : Nat} {q : Nat → Int32} {ln : Nat → Nat} {fl : Nat → Nat → Int32} {us : Nat → Int32} {hs : Nat → mSt} {g : Nat → Int32} (hn : nR M m (T, mo, od, ql, q, ln, fl, us) c hs tl g) {a : Int32} : CC G iX7_pick 0 0 [.ref m, .int a] M (fun r M1 => r = some (.int (if isIx a (rkN T mo od ql q ln fl us T).1 = true then nI ((rkN T mo od ql q ln fl us T).2 a.toNatClampNeg) else -1)) ∧ nR M1 m (if isIx a (rkN T mo od ql q ln fl us T).1 = true then (T, mo, od, 0, q, ln, fl, adF us ((rkN T mo od ql q ln fl us T).2 a.toNatClampNeg) (us ((rkN T mo od ql q ln fl us T).2 a.toNatClampNeg) + nI 1)) else (T, mo, od, ql, q, ln, fl, us)) (if isIx a (rkN T mo od ql q ln fl us T).1 = true then (min (c + 1) 6) else c) (if isIx a (rkN T mo od ql q ln fl us T).1 = true then (hPush (T, mo, od, ql, q, ln, fl, us) hs) else hs) tl g ∧ mZ TM M M1) := by
  refine CC.of rfl (Nat.le_of_ble_eq_true rfl) rfl (fun X C Tr => ?_)
  show V X 0 0 0 [some (.ref m), some (.int a)] [] M
  obtain ⟨sa, ha, xa, ra, la, qa, al, ka, rm, pa, fs, fe, za, wa, ua, ap, cm, nu, be, en, S, H, xt, so, sn, Q, K, P, Z, W, U, hO, hS, hx, hH, hHr, hc6, hX, hXg, htl, hSo, hSn, hQ, hK, hP, hZ, hW, hU, hok⟩ := hn.get
  have hx8 := hx
  obtain ⟨hx0, hx1, hx2, hx3, hxq, hxt⟩ := hx
  have hT16 := hok.T16
  have hm4 := hok.m4
  have ho3 := hok.o3
  have hq24 := hok.q24
  have hki := (rkN_in (T := T) (mo := mo) (od := od) (ql := ql) (q := q) (ln := ln) (fl := fl) (us := us) (t := T))
  refine s_aload_n C 1 dX7_pick_0 rfl rfl ?_
  refine s_iload_n C 2 dX7_pick_1 rfl rfl ?_
  refine s_invV C 5 0 0 [] (mRv_of hO rfl) dX7_pick_2 rfl m_X7_219 (n_isRank hO hS hx8 hok hSo hSn hQ hK hP (a := a)) rfl rfl rfl ⟨by decide, by decide⟩ (Nat.le_of_ble_eq_true rfl) (by omega) (by omega) ?_
  rintro _ M1 ⟨rfl, hO7, ⟨so7, sn7, hSo7, hSn7, hsr⟩, ⟨Q7, hQ7⟩, ⟨K7, hK7, hKk⟩, ⟨P7, hP7, hPp⟩, hFf⟩
  dsimp only [Option.toList, List.cons_append, List.nil_append]
  have hS := hFf.at hS (by decide)
  have hX := hFf.at hX (by decide)
  have hH := hFf.at hH (by decide)
  have hZ := hFf.at hZ (by decide)
  have hW := hFf.at hW (by decide)
  have hU := hFf.at hU (by decide)
  have hO := hO7
  have hSo := hSo7
  have hSn := hSn7
  have hQ := hQ7
  have hK := hK7
  have hP := hP7
  refine s_if_neB C 10 8 dX7_pick_5 (by decide) rfl (fun z5 => ?_) (fun z5 => ?_)
  · skip
    obtain ⟨k, hk9, hqk⟩ := isIx_of (x := a) (c := (rkN T mo od ql q ln fl us T).1) z5 (by omega)
    subst hqk
    obtain ⟨hkl, hks⟩ := hki.2 k hk9
    have hPk : P7 ((rkN T mo od ql q ln fl us T).2 k) = nI (plN mo ql q ln fl ((rkN T mo od ql q ln fl us T).2 k)) := by rw [hPp _ hkl, oI_some hks]; rfl
    refine s_aload_n C 11 dX7_pick_10 rfl rfl ?_
    refine s_invV C 14 0 0 [] (mRv_of hO rfl) dX7_pick_11 rfl m_X7_231 (n_record hO hS hx8 hok hH hHr hc6) rfl rfl rfl ⟨by decide, by decide⟩ (Nat.le_of_ble_eq_true rfl) (by omega) (by omega) ?_
    rintro _ M2 ⟨rfl, hO5, ⟨H5, hH5, hHr5⟩, hFr⟩
    dsimp only [Option.toList, List.cons_append, List.nil_append]
    have hS := hFr.at hS (by decide)
    have hX := hFr.at hX (by decide)
    have hSo := hFr.at hSo (by decide)
    have hSn := hFr.at hSn (by decide)
    have hQ := hFr.at hQ (by decide)
    have hK := hFr.at hK (by decide)
    have hP := hFr.at hP (by decide)
    have hZ := hFr.at hZ (by decide)
    have hW := hFr.at hW (by decide)
    have hU := hFr.at hU (by decide)
    have hO := hO5
    have hH := hH5
    have hF : mZ TM M1 M2 := (hFr.mono (by decide))
    have hHr := hHr5
    have hc6 : min (c + 1) 6 ≤ 6 := by omega
    refine s_aload_n C 15 dX7_pick_14 rfl rfl ?_
    refine s_iload_n C 16 dX7_pick_15 rfl rfl ?_
    refine s_invV C 19 0 0 [] (mRv_of hO rfl) dX7_pick_16 rfl m_X7_228 (n_picks hO hS hx8 hok hK (k := k) (t := ((rkN T mo od ql q ln fl us T).2 k)) (by omega) hkl (hKk k hk9)) rfl rfl rfl ⟨by decide, by decide⟩ (Nat.le_of_ble_eq_true rfl) (by omega) (by omega) ?_
    rintro _ M3 ⟨rfl, ⟨S5, hS5, hx5⟩, hFp⟩
    dsimp only [Option.toList, List.cons_append, List.nil_append]
    have hO := hFp.at hO (by decide)
    have hX := hFp.at hX (by decide)
    have hSo := hFp.at hSo (by decide)
    have hSn := hFp.at hSn (by decide)
    have hH := hFp.at hH (by decide)
    have hQ := hFp.at hQ (by decide)
    have hK := hFp.at hK (by decide)
    have hP := hFp.at hP (by decide)
    have hZ := hFp.at hZ (by decide)
    have hW := hFp.at hW (by decide)
    have hU := hFp.at hU (by decide)
    have hS := hS5
    exact s_iret C dX7_pick_19 Tr rfl ⟨by rw [isIx_nI hk9 (by omega), if_pos rfl, nI_clamp (by omega)], by rw [isIx_nI hk9 (by omega), if_pos rfl, if_pos rfl, if_pos rfl, nI_clamp (by omega)]; exact ⟨_, _, _, _, _, _, _, _, _, _, _, _, _, _, _, _, _, _, _, _, _, _, _, _, _, _, _, _, _, _, _, hO, hS, hx5, hH, hHr, hc6, hX, hXg, htl, hSo, hSn, hQ, hK, hP, hZ, hW, hU, (okX_ql hok (Nat.zero_le _))⟩, ((hFf.mono (by decide)).tr hF).tr (hFp.mono (by decide))⟩
  · skip
    have hz9 := z5
    refine s_iconst C 9 (-1) dX7_pick_8 rfl (by decide) ?_
    exact s_iret C dX7_pick_9 Tr rfl ⟨by rw [hz9]; rfl, by rw [hz9]; exact ⟨_, _, _, _, _, _, _, _, _, _, _, _, _, _, _, _, _, _, _, _, _, _, _, _, _, _, _, _, _, _, _, hO, hS, hx8, hH, hHr, hc6, hX, hXg, htl, hSo, hSn, hQ, hK, hP, hZ, hW, hU, hok⟩, (hFf.mono (by decide))⟩

set_option maxRecDepth 100000 in
set_option maxHeartbeats 4000000 in
theorem nn_drop {G : mG} {M : mM} {m T mo od ql c tl : Nat} {q : Nat → Int32} {ln : Nat → Nat} {fl : Nat → Nat → Int32} {us : Nat → Int32} {hs : Nat → mSt} {g : Nat → Int32} (hn : nR M m (T, mo, od, ql, q, ln, fl, us) c hs tl g) {a : Int32} : CC G iX7_drop 0 0 [.ref m, .int a] M (fun r M1 => r = some (.int (if isIx a T = true then nI (T - 1) else -1)) ∧ nR M1 m (if isIx a T = true then stDrop T mo od ql q ln fl us a.toNatClampNeg else (T, mo, od, ql, q, ln, fl, us)) (if isIx a T = true then (min (c + 1) 6) else c) (if isIx a T = true then (hPush (T, mo, od, ql, q, ln, fl, us) hs) else hs) tl g ∧ mZ TM M M1) := by
  refine CC.of rfl (Nat.le_of_ble_eq_true rfl) rfl (fun X C Tr => ?_)
  show V X 0 0 0 [some (.ref m), some (.int a)] [] M
  obtain ⟨sa, ha, xa, ra, la, qa, al, ka, rm, pa, fs, fe, za, wa, ua, ap, cm, nu, be, en, S, H, xt, so, sn, Q, K, P, Z, W, U, hO, hS, hx, hH, hHr, hc6, hX, hXg, htl, hSo, hSn, hQ, hK, hP, hZ, hW, hU, hok⟩ := hn.get
  have hx8 := hx
  obtain ⟨hx0, hx1, hx2, hx3, hxq, hxt⟩ := hx
  have hT16 := hok.T16
  have hm4 := hok.m4
  have ho3 := hok.o3
  have hq24 := hok.q24
  refine s_aload_n C 1 dX7_drop_0 rfl rfl ?_
  refine s_iload_n C 2 dX7_drop_1 rfl rfl ?_
  refine s_invV C 5 0 0 [] (mRv_of hO rfl) dX7_drop_2 rfl m_X7_216 (n_isTitle hO hS hx8 hok (a := a)) rfl rfl rfl ⟨by decide, by decide⟩ (Nat.le_of_ble_eq_true rfl) (by omega) (by omega) ?_
  rintro _ M1 ⟨rfl, rfl⟩
  dsimp only [Option.toList, List.cons_append, List.nil_append]
  refine s_if_neB C 10 8 dX7_drop_5 (by decide) rfl (fun z5 => ?_) (fun z5 => ?_)
  · skip
    obtain ⟨t, ht9, hqt⟩ := isIx_of (x := a) (c := T) z5 (by omega)
    subst hqt
    refine s_aload_n C 11 dX7_drop_10 rfl rfl ?_
    refine s_invV C 14 0 0 [] (mRv_of hO rfl) dX7_drop_11 rfl m_X7_231 (n_record hO hS hx8 hok hH hHr hc6) rfl rfl rfl ⟨by decide, by decide⟩ (Nat.le_of_ble_eq_true rfl) (by omega) (by omega) ?_
    rintro _ M2 ⟨rfl, hO5, ⟨H5, hH5, hHr5⟩, hFr⟩
    dsimp only [Option.toList, List.cons_append, List.nil_append]
    have hS := hFr.at hS (by decide)
    have hX := hFr.at hX (by decide)
    have hSo := hFr.at hSo (by decide)
    have hSn := hFr.at hSn (by decide)
    have hQ := hFr.at hQ (by decide)
    have hK := hFr.at hK (by decide)
    have hP := hFr.at hP (by decide)
    have hZ := hFr.at hZ (by decide)
    have hW := hFr.at hW (by decide)
    have hU := hFr.at hU (by decide)
    have hO := hO5
    have hH := hH5
    have hF : mZ TM M M2 := (hFr.mono (by decide))
    have hHr := hHr5
    have hc6 : min (c + 1) 6 ≤ 6 := by omega
    refine s_aload_n C 15 dX7_drop_14 rfl rfl ?_
    refine s_iload_n C 16 dX7_drop_15 rfl rfl ?_
    refine s_invV C 19 0 0 [] (mRv_of hO rfl) dX7_drop_16 rfl m_X7_225 (n_drops hO hS hx8 hok (t := t) ht9) rfl rfl rfl ⟨by decide, by decide⟩ (Nat.le_of_ble_eq_true rfl) (by omega) (by omega) ?_
    rintro _ M3 ⟨rfl, ⟨S5, hS5, hx5⟩, hFd⟩
    dsimp only [Option.toList, List.cons_append, List.nil_append]
    have hO := hFd.at hO (by decide)
    have hX := hFd.at hX (by decide)
    have hSo := hFd.at hSo (by decide)
    have hSn := hFd.at hSn (by decide)
    have hH := hFd.at hH (by decide)
    have hQ := hFd.at hQ (by decide)
    have hK := hFd.at hK (by decide)
    have hP := hFd.at hP (by decide)
    have hZ := hFd.at hZ (by decide)
    have hW := hFd.at hW (by decide)
    have hU := hFd.at hU (by decide)
    have hS := hS5
    exact s_iret C dX7_drop_19 Tr rfl ⟨by rw [isIx_nI ht9 (by omega), if_pos rfl], by rw [isIx_nI ht9 (by omega), if_pos rfl, if_pos rfl, if_pos rfl, nI_clamp (by omega)]; exact ⟨_, _, _, _, _, _, _, _, _, _, _, _, _, _, _, _, _, _, _, _, _, _, _, _, _, _, _, _, _, _, _, hO, hS, hx5, hH, hHr, hc6, hX, hXg, htl, hSo, hSn, hQ, hK, hP, hZ, hW, hU, (okX_drop hok)⟩, hF.tr (hFd.mono (by decide))⟩
  · skip
    have hz9 := z5
    refine s_iconst C 9 (-1) dX7_drop_8 rfl (by decide) ?_
    exact s_iret C dX7_drop_9 Tr rfl ⟨by rw [hz9]; rfl, by rw [hz9]; exact ⟨_, _, _, _, _, _, _, _, _, _, _, _, _, _, _, _, _, _, _, _, _, _, _, _, _, _, _, _, _, _, _, hO, hS, hx8, hH, hHr, hc6, hX, hXg, htl, hSo, hSn, hQ, hK, hP, hZ, hW, hU, hok⟩, mZ.rf⟩

set_option maxRecDepth 100000 in
set_option maxHeartbeats 4000000 in
theorem nn_add {G : mG} {M : mM} {m T mo od ql c tl : Nat} {q : Nat → Int32} {ln : Nat → Nat} {fl : Nat → Nat → Int32} {us : Nat → Int32} {hs : Nat → mSt} {g : Nat → Int32} (hn : nR M m (T, mo, od, ql, q, ln, fl, us) c hs tl g)  : CC G iX7_add 0 0 [.ref m] M (fun r M1 => r = some (.int (if itB g tl = true then (if refV T ln fl (fun j => g (0 + j)) tl < 0 then refV T ln fl (fun j => g (0 + j)) tl else nI T) else -5)) ∧ nR M1 m (if (itB g tl = true ∧ ¬ refV T ln fl (fun j => g (0 + j)) tl < 0) then (stAdd T mo od ql q ln fl us tl (fun j => g (0 + j)) (nI 0)) else (T, mo, od, ql, q, ln, fl, us)) (if (itB g tl = true ∧ ¬ refV T ln fl (fun j => g (0 + j)) tl < 0) then (min (c + 1) 6) else c) (if (itB g tl = true ∧ ¬ refV T ln fl (fun j => g (0 + j)) tl < 0) then (hPush (T, mo, od, ql, q, ln, fl, us) hs) else hs) (if (itB g tl = true ∧ ¬ refV T ln fl (fun j => g (0 + j)) tl < 0) then 0 else tl) g ∧ mZ TM M M1) := by
  refine CC.of rfl (Nat.le_of_ble_eq_true rfl) rfl (fun X C Tr => ?_)
  show V X 0 0 0 [some (.ref m), none, none] [] M
  obtain ⟨sa, ha, xa, ra, la, qa, al, ka, rm, pa, fs, fe, za, wa, ua, ap, cm, nu, be, en, S, H, xt, so, sn, Q, K, P, Z, W, U, hO, hS, hx, hH, hHr, hc6, hX, hXg, htl, hSo, hSn, hQ, hK, hP, hZ, hW, hU, hok⟩ := hn.get
  have hx8 := hx
  obtain ⟨hx0, hx1, hx2, hx3, hxq, hxt⟩ := hx
  have hT16 := hok.T16
  have hm4 := hok.m4
  have ho3 := hok.o3
  have hq24 := hok.q24
  refine s_aload_n C 1 dX7_add_0 rfl rfl ?_
  refine s_invV C 4 0 0 [] (mRv_of hO rfl) dX7_add_1 rfl m_X7_240 (n_whyTyped hO hS hx8 hok hX hXg htl) rfl rfl rfl ⟨by decide, by decide⟩ (Nat.le_of_ble_eq_true rfl) (by omega) (by omega) ?_
  rintro _ M1 ⟨rfl, hO6, hFw⟩
  dsimp only [Option.toList, List.cons_append, List.nil_append]
  obtain ⟨ap7, be7, en7, hO7⟩ := hO6
  have hS := hFw.at hS (by decide)
  have hX := hFw.at hX (by decide)
  have hSo := hFw.at hSo (by decide)
  have hSn := hFw.at hSn (by decide)
  have hH := hFw.at hH (by decide)
  have hQ := hFw.at hQ (by decide)
  have hK := hFw.at hK (by decide)
  have hP := hFw.at hP (by decide)
  have hZ := hFw.at hZ (by decide)
  have hW := hFw.at hW (by decide)
  have hU := hFw.at hU (by decide)
  have hO := hO7
  refine s_istore_n C 5 dX7_add_4 rfl rfl rfl ?_
  dsimp only [List.set]
  refine s_iload_n C 6 dX7_add_5 rfl rfl ?_
  refine s_if_ge C 11 9 dX7_add_6 (by decide) rfl (fun z6 => ?_) (fun z6 => ?_)
  · skip
    have hI : itB g tl = true := by by_cases hI : itB g tl = true; (· exact hI); rw [if_neg hI] at z6; exact absurd z6 (by decide)
    have hN : ¬ refV T ln fl (fun j => g (0 + j)) tl < 0 := by rw [if_pos hI] at z6; exact i32_le.mp z6
    have hyes : (itB g tl = true ∧ ¬ refV T ln fl (fun j => g (0 + j)) tl < 0) := ⟨hI, hN⟩
    obtain ⟨-, hTV, hn24⟩ := itB_TV hI
    obtain ⟨-, hdp, hT15⟩ := (refV_lt (T := T) (ln := ln) (fl := fl) (f := (fun j => g (0 + j))) (n := tl)).resolve_left hN
    refine s_aload_n C 12 dX7_add_11 rfl rfl ?_
    refine s_invV C 15 0 0 [] (mRv_of hO rfl) dX7_add_12 rfl m_X7_231 (n_record hO hS hx8 hok hH hHr hc6) rfl rfl rfl ⟨by decide, by decide⟩ (Nat.le_of_ble_eq_true rfl) (by omega) (by omega) ?_
    rintro _ M2 ⟨rfl, hO5, ⟨H5, hH5, hHr5⟩, hFr⟩
    dsimp only [Option.toList, List.cons_append, List.nil_append]
    have hS := hFr.at hS (by decide)
    have hX := hFr.at hX (by decide)
    have hSo := hFr.at hSo (by decide)
    have hSn := hFr.at hSn (by decide)
    have hQ := hFr.at hQ (by decide)
    have hK := hFr.at hK (by decide)
    have hP := hFr.at hP (by decide)
    have hZ := hFr.at hZ (by decide)
    have hW := hFr.at hW (by decide)
    have hU := hFr.at hU (by decide)
    have hO := hO5
    have hH := hH5
    have hF : mZ TM M1 M2 := (hFr.mono (by decide))
    have hHr := hHr5
    have hc6 : min (c + 1) 6 ≤ 6 := by omega
    refine s_aload_n C 16 dX7_add_15 rfl rfl ?_
    refine s_iconst C 17 (nI 0) dX7_add_16 rfl (by decide) ?_
    refine s_aload_n C 18 dX7_add_17 rfl rfl ?_
    refine s_getf C 21 dX7_add_18 rfl f_X7_120 hO rfl ?_
    refine s_invV C 24 0 0 [] (mRv_of hO rfl) dX7_add_21 rfl m_X7_222 (n_adds hO hS hx8 hok hX hXg htl (fr := 0) (to := tl) (Nat.zero_le _) (Nat.le_refl _) (by omega) hT15) rfl rfl rfl ⟨by decide, by decide⟩ (Nat.le_of_ble_eq_true rfl) (by omega) (by omega) ?_
    rintro _ M3 ⟨rfl, ⟨S5, hS5, hx5⟩, hFa⟩
    dsimp only [Option.toList, List.cons_append, List.nil_append]
    have hO := hFa.at hO (by decide)
    have hX := hFa.at hX (by decide)
    have hSo := hFa.at hSo (by decide)
    have hSn := hFa.at hSn (by decide)
    have hH := hFa.at hH (by decide)
    have hQ := hFa.at hQ (by decide)
    have hK := hFa.at hK (by decide)
    have hP := hFa.at hP (by decide)
    have hZ := hFa.at hZ (by decide)
    have hW := hFa.at hW (by decide)
    have hU := hFa.at hU (by decide)
    have hS := hS5
    have hF := hF.tr (hFa.mono (by decide))
    refine s_istore_n C 25 dX7_add_24 rfl rfl rfl ?_
    dsimp only [List.set]
    refine s_aload_n C 26 dX7_add_25 rfl rfl ?_
    refine s_iconst C 27 (nI 0) dX7_add_26 rfl (by decide) ?_
    refine s_putU C 30 dX7_add_27 rfl p_X7_120 hO (by first | decide | omega) rfl rfl rfl (fs' := [.ref sa, .ref ha, .int (nI (min (c + 1) 6)), .ref xa, .int (nI 0), .ref ra, .ref la, .ref qa, .int (nI al), .ref ka, .int (nI rm), .ref pa, .int fs, .int fe, .ref za, .ref wa, .ref ua, .int (nI ap7), .int cm, .int (nI nu), .int (nI be7), .int (nI en7)]) rfl (fun M4 U5 => ?_)
    have hS := U5.o hO hS (by first | decide | omega)
    have hX := U5.o hO hX (by first | decide | omega)
    have hSo := U5.o hO hSo (by first | decide | omega)
    have hSn := U5.o hO hSn (by first | decide | omega)
    have hH := U5.o hO hH (by first | decide | omega)
    have hQ := U5.o hO hQ (by first | decide | omega)
    have hK := U5.o hO hK (by first | decide | omega)
    have hP := U5.o hO hP (by first | decide | omega)
    have hZ := U5.o hO hZ (by first | decide | omega)
    have hW := U5.o hO hW (by first | decide | omega)
    have hU := U5.o hO hU (by first | decide | omega)
    have hF := hF.put U5 hO (by first | decide | (simp; done) | (simp; omega) | (simp [*]; done))
    have hO := U5.s
    refine s_iload_n C 31 dX7_add_30 rfl rfl ?_
    exact s_iret C dX7_add_31 Tr rfl ⟨by rw [if_pos hI, if_neg hN], by rw [if_pos hyes, if_pos hyes, if_pos hyes, if_pos hyes]; exact ⟨_, _, _, _, _, _, _, _, _, _, _, _, _, _, _, _, _, _, _, _, _, _, _, _, _, _, _, _, _, _, _, hO, hS, hx5, hH, hHr, hc6, hX, (fun k hk => absurd hk (Nat.not_lt_zero _)), (Nat.zero_le _), hSo, hSn, hQ, hK, hP, hZ, hW, hU, (okX_add hok hT15 hTV hdp)⟩, (hFw.mono (by decide)).tr hF⟩
  · skip
    have hno : ¬ (itB g tl = true ∧ ¬ refV T ln fl (fun j => g (0 + j)) tl < 0) := fun w => by rw [if_pos w.1] at z6; exact z6 (i32_le.mpr w.2)
    have hval : (if itB g tl = true then refV T ln fl (fun j => g (0 + j)) tl else -5) = (if itB g tl = true then (if refV T ln fl (fun j => g (0 + j)) tl < 0 then refV T ln fl (fun j => g (0 + j)) tl else nI T) else -5) := by by_cases hI : itB g tl = true; (· rw [if_pos hI, if_pos hI, if_pos (by by_cases hN : refV T ln fl (fun j => g (0 + j)) tl < 0; (· exact hN); exact absurd ⟨hI, hN⟩ hno)]); rw [if_neg hI, if_neg hI]
    refine s_iload_n C 10 dX7_add_9 rfl rfl ?_
    exact s_iret C dX7_add_10 Tr rfl ⟨by rw [hval], by rw [if_neg hno, if_neg hno, if_neg hno, if_neg hno]; exact ⟨_, _, _, _, _, _, _, _, _, _, _, _, _, _, _, _, _, _, _, _, _, _, _, _, _, _, _, _, _, _, _, hO, hS, hx8, hH, hHr, hc6, hX, hXg, htl, hSo, hSn, hQ, hK, hP, hZ, hW, hU, hok⟩, (hFw.mono (by decide))⟩

set_option maxRecDepth 100000 in
set_option maxHeartbeats 4000000 in
theorem nn_undo {G : mG} {M : mM} {m T mo od ql c tl : Nat} {q : Nat → Int32} {ln : Nat → Nat} {fl : Nat → Nat → Int32} {us : Nat → Int32} {hs : Nat → mSt} {g : Nat → Int32} (hn : nR M m (T, mo, od, ql, q, ln, fl, us) c hs tl g)  : CC G iX7_undo 0 0 [.ref m] M (fun r M1 => r = some (.int (if 0 < c then nI (c - 1) else -3)) ∧ nR M1 m (if 0 < c then hs 0 else (T, mo, od, ql, q, ln, fl, us)) (c - 1) (if 0 < c then fun j => hs (j + 1) else hs) tl g ∧ mZ TM M M1) := by
  refine CC.of rfl (Nat.le_of_ble_eq_true rfl) rfl (fun X C Tr => ?_)
  show V X 0 0 0 [some (.ref m), none] [] M
  obtain ⟨sa, ha, xa, ra, la, qa, al, ka, rm, pa, fs, fe, za, wa, ua, ap, cm, nu, be, en, S, H, xt, so, sn, Q, K, P, Z, W, U, hO, hS, hx, hH, hHr, hc6, hX, hXg, htl, hSo, hSn, hQ, hK, hP, hZ, hW, hU, hok⟩ := hn.get
  have hx8 := hx
  obtain ⟨hx0, hx1, hx2, hx3, hxq, hxt⟩ := hx
  have hT16 := hok.T16
  have hm4 := hok.m4
  have ho3 := hok.o3
  have hq24 := hok.q24
  have hF : mZ TM M M := mZ.rf
  refine s_aload_n C 1 dX7_undo_0 rfl rfl ?_
  refine s_getf C 4 dX7_undo_1 rfl f_X7_43 hO rfl ?_
  refine s_if_neN C 10 7 dX7_undo_4 (by decide) rfl (by omega) (fun z4 => ?_) (fun z4 => ?_)
  · skip
    have hc1 : 0 < c := by omega
    refine s_aload_n C 11 dX7_undo_10 rfl rfl ?_
    refine s_dup C 12 dX7_undo_11 rfl rfl ?_
    refine s_getf C 15 dX7_undo_12 rfl f_X7_43 hO rfl ?_
    refine s_iconst C 16 (nI 1) dX7_undo_15 rfl (by decide) ?_
    refine s_isubN C 17 dX7_undo_16 rfl (by omega) ?_
    refine s_putU C 20 dX7_undo_17 rfl p_X7_43 hO (by first | decide | omega) rfl rfl rfl (fs' := [.ref sa, .ref ha, .int (nI (c - 1)), .ref xa, .int (nI tl), .ref ra, .ref la, .ref qa, .int (nI al), .ref ka, .int (nI rm), .ref pa, .int fs, .int fe, .ref za, .ref wa, .ref ua, .int (nI ap), .int cm, .int (nI nu), .int (nI be), .int (nI en)]) rfl (fun M1 U2 => ?_)
    have hS := U2.o hO hS (by first | decide | omega)
    have hX := U2.o hO hX (by first | decide | omega)
    have hSo := U2.o hO hSo (by first | decide | omega)
    have hSn := U2.o hO hSn (by first | decide | omega)
    have hH := U2.o hO hH (by first | decide | omega)
    have hQ := U2.o hO hQ (by first | decide | omega)
    have hK := U2.o hO hK (by first | decide | omega)
    have hP := U2.o hO hP (by first | decide | omega)
    have hZ := U2.o hO hZ (by first | decide | omega)
    have hW := U2.o hO hW (by first | decide | omega)
    have hU := U2.o hO hU (by first | decide | omega)
    have hF := hF.put U2 hO (by first | decide | (simp; done) | (simp; omega) | (simp [*]; done))
    have hO := U2.s
    refine s_iconst C 21 (nI 0) dX7_undo_20 rfl (by decide) ?_
    refine s_istore_n C 22 dX7_undo_21 rfl rfl rfl ?_
    dsimp only [List.set]
    suffices lp22 : ∀ (fu22 : Nat) (k : Nat) (S9 : Nat → Int32) (M9 : mM), 444 - k < fu22 → k ≤ 444 → (∀ j, j < k → S9 j = H ((c - 1) * 444 + j)) → M9 m = some (300, .inl (8, [.ref sa, .ref ha, .int (nI (c - 1)), .ref xa, .int (nI tl), .ref ra, .ref la, .ref qa, .int (nI al), .ref ka, .int (nI rm), .ref pa, .int fs, .int fe, .ref za, .ref wa, .ref ua, .int (nI ap), .int cm, .int (nI nu), .int (nI be), .int (nI en)])) → M9 sa = some (301, .inr (0, 444, .inl S9)) → M9 xa = some (303, .inr (0, 80, .inl xt)) → M9 ra = some (304, .inr (0, 384, .inl so)) → M9 la = some (305, .inr (0, 16, .inl sn)) → M9 ha = some (302, .inr (0, 2664, .inl H)) → M9 qa = some (306, .inr (0, 24, .inl Q)) → M9 ka = some (307, .inr (0, 16, .inl K)) → M9 pa = some (308, .inr (0, 16, .inl P)) → M9 za = some (309, .inr (0, 16, .inl Z)) → M9 wa = some (310, .inr (0, 16, .inl W)) → M9 ua = some (311, .inr (0, 25, .inl U)) → mZ TM M M9 → V X 0 0 22 [some (.ref m), some (.int (nI k))] [] M9 from lp22 445 0 _ _ (by omega) (by omega) (fun j hj => by omega) hO hS hX hSo hSn hH hQ hK hP hZ hW hU hF
    intro fu22
    induction fu22 with
    | zero => intro k S9 M9 hk0 hk hSk hO hS hX hSo hSn hH hQ hK hP hZ hW hU hF; omega
    | succ fu22 ih22 =>
      intro k S9 M9 hk0 hk hSk hO hS hX hSo hSn hH hQ hK hP hZ hW hU hF
      refine s_iload_n C 23 dX7_undo_22 rfl rfl ?_
      refine s_sipush C 26 (nI 444) dX7_undo_23 rfl (by decide) ?_
      refine s_icmp_geN C 56 29 dX7_undo_26 (by decide) rfl (by omega) (by omega) (fun z26 => ?_) (fun z26 => ?_)
      · skip
        obtain ⟨hok5, hx4⟩ := hHr 0 hc1
        have hx5 : SRx S9 (hs 0) := SRx_cong hok5 (fun i hi => by rw [hSk i (by omega)]; show H ((c - 1) * 444 + i) = H (444 * (c - 1 - 0) + i); rw [Nat.sub_zero, Nat.mul_comm]) hx4
        refine s_aload_n C 57 dX7_undo_56 rfl rfl ?_
        refine s_getf C 60 dX7_undo_57 rfl f_X7_43 hO rfl ?_
        exact s_iret C dX7_undo_60 Tr rfl ⟨by rw [if_pos hc1], by rw [if_pos hc1, if_pos hc1]; exact ⟨_, _, _, _, _, _, _, _, _, _, _, _, _, _, _, _, _, _, _, _, _, _, _, _, _, _, _, _, _, _, _, hO, hS, hx5, hH, (hRow_pop hHr hc1), (by omega), hX, hXg, htl, hSo, hSn, hQ, hK, hP, hZ, hW, hU, hok5⟩, hF⟩
      · skip
        refine s_aload_n C 30 dX7_undo_29 rfl rfl ?_
        refine s_getf C 33 dX7_undo_30 rfl f_X7_7 hO rfl ?_
        refine s_iload_n C 34 dX7_undo_33 rfl rfl ?_
        refine s_aload_n C 35 dX7_undo_34 rfl rfl ?_
        refine s_getf C 38 dX7_undo_35 rfl f_X7_13 hO rfl ?_
        refine s_aload_n C 39 dX7_undo_38 rfl rfl ?_
        refine s_getf C 42 dX7_undo_39 rfl f_X7_43 hO rfl ?_
        refine s_sipush C 45 (nI 444) dX7_undo_42 rfl (by decide) ?_
        refine s_imulN C 46 dX7_undo_45 rfl ?_
        refine s_iload_n C 47 dX7_undo_46 rfl rfl ?_
        refine s_iaddN C 48 dX7_undo_47 rfl ?_
        refine s_iald C 49 dX7_undo_48 rfl hH (by omega) (by omega) ?_
        refine s_iastU C 50 dX7_undo_49 rfl hS (by first | decide | omega) (by omega) (by omega) (fun M3 U4 => ?_)
        have hO := U4.o hS hO (by first | decide | omega)
        have hX := U4.o hS hX (by first | decide | omega)
        have hSo := U4.o hS hSo (by first | decide | omega)
        have hSn := U4.o hS hSn (by first | decide | omega)
        have hH := U4.o hS hH (by first | decide | omega)
        have hQ := U4.o hS hQ (by first | decide | omega)
        have hK := U4.o hS hK (by first | decide | omega)
        have hP := U4.o hS hP (by first | decide | omega)
        have hZ := U4.o hS hZ (by first | decide | omega)
        have hW := U4.o hS hW (by first | decide | omega)
        have hU := U4.o hS hU (by first | decide | omega)
        have hF := hF.put U4 hS (by first | decide | (simp; done) | (simp; omega) | (simp [*]; done))
        have hS := U4.s
        refine s_iinc C 53 (nI (k + 1)) dX7_undo_50 rfl rfl (by rw [← nI_add]; rfl) rfl ?_
        dsimp only [List.set]
        refine s_goto C 22 dX7_undo_53 (by decide) ?_
        exact ih22 (k + 1) _ _ (by omega) (by omega) (fun j hj => by by_cases e : j = k; (· rw [e, pk_us]); rw [pk_un e]; exact hSk j (by omega)) hO hS hX hSo hSn hH hQ hK hP hZ hW hU hF
  · skip
    have hc0 : ¬ 0 < c := by omega
    refine s_bipush C 9 (-3) dX7_undo_7 rfl (by decide) ?_
    exact s_iret C dX7_undo_9 Tr rfl ⟨by rw [if_neg hc0], by rw [if_neg hc0, if_neg hc0, show c - 1 = c by omega]; exact ⟨_, _, _, _, _, _, _, _, _, _, _, _, _, _, _, _, _, _, _, _, _, _, _, _, _, _, _, _, _, _, _, hO, hS, hx8, hH, hHr, hc6, hX, hXg, htl, hSo, hSn, hQ, hK, hP, hZ, hW, hU, hok⟩, hF⟩

set_option maxRecDepth 100000 in
set_option maxHeartbeats 4000000 in
theorem nn_ask {G : mG} {M : mM} {m T mo od ql c tl : Nat} {q : Nat → Int32} {ln : Nat → Nat} {fl : Nat → Nat → Int32} {us : Nat → Int32} {hs : Nat → mSt} {g : Nat → Int32} (hn : nR M m (T, mo, od, ql, q, ln, fl, us) c hs tl g) {a : Int32} : CC G iX7_ask 0 0 [.ref m, .int a] M (fun r M1 => r = some (.int (if ¬ (a = nI 32 ∨ isL a = true) then -2 else if a = nI 32 ∧ qeB ql q = false then -3 else if 24 ≤ ql then -4 else nI (rkN T mo od (ql + 1) (upd q ql a) ln fl us T).1)) ∧ nR M1 m (if ((a = nI 32 ∨ isL a = true) ∧ ¬ (a = nI 32 ∧ qeB ql q = false) ∧ ql < 24) then (T, mo, od, ql + 1, upd q ql a, ln, fl, us) else (T, mo, od, ql, q, ln, fl, us)) (if ((a = nI 32 ∨ isL a = true) ∧ ¬ (a = nI 32 ∧ qeB ql q = false) ∧ ql < 24) then (min (c + 1) 6) else c) (if ((a = nI 32 ∨ isL a = true) ∧ ¬ (a = nI 32 ∧ qeB ql q = false) ∧ ql < 24) then (hPush (T, mo, od, ql, q, ln, fl, us) hs) else hs) tl g ∧ mZ TM M M1) := by
  refine CC.of rfl (Nat.le_of_ble_eq_true rfl) rfl (fun X C Tr => ?_)
  show V X 0 0 0 [some (.ref m), some (.int a), none] [] M
  obtain ⟨sa, ha, xa, ra, la, qa, al, ka, rm, pa, fs, fe, za, wa, ua, ap, cm, nu, be, en, S, H, xt, so, sn, Q, K, P, Z, W, U, hO, hS, hx, hH, hHr, hc6, hX, hXg, htl, hSo, hSn, hQ, hK, hP, hZ, hW, hU, hok⟩ := hn.get
  have hx8 := hx
  obtain ⟨hx0, hx1, hx2, hx3, hxq, hxt⟩ := hx
  have hT16 := hok.T16
  have hm4 := hok.m4
  have ho3 := hok.o3
  have hq24 := hok.q24
  refine s_iload_n C 1 dX7_ask_0 rfl rfl ?_
  refine s_invS C 4 0 0 [] dX7_ask_1 rfl m_X7_137 (n_isLetter) rfl rfl rfl ⟨by decide, by decide⟩ (Nat.le_of_ble_eq_true rfl) (by omega) (by omega) ?_
  rintro _ M1 ⟨rfl, rfl⟩
  dsimp only [Option.toList, List.cons_append, List.nil_append]
  refine s_if_neB C 16 7 dX7_ask_4 (by decide) rfl (fun z4 => ?_) (fun z4 => ?_)
  · skip
    have h32 : a = nI 32 ∨ isL a = true := Or.inr z4
    refine s_aload_n C 17 dX7_ask_16 rfl rfl ?_
    refine s_getf C 20 dX7_ask_17 rfl f_X7_7 hO rfl ?_
    refine s_iconst C 21 (nI 3) dX7_ask_20 rfl (by decide) ?_
    refine s_iald C 22 dX7_ask_21 rfl hS (by omega) (by omega) ?_
    rw [hx3]
    refine s_istore_n C 23 dX7_ask_22 rfl rfl rfl ?_
    dsimp only [List.set]
    refine s_iload_n C 24 dX7_ask_23 rfl rfl ?_
    refine s_bipush C 26 (nI 32) dX7_ask_24 rfl (by decide) ?_
    refine s_icmp_ne C 51 29 dX7_ask_26 (by decide) rfl (fun z26 => ?_) (fun z26 => ?_)
    · skip
      have hw : ¬ (a = nI 32 ∧ qeB ql q = false) := fun w => z26 w.1
      refine s_iload_n C 52 dX7_ask_51 rfl rfl ?_
      refine s_bipush C 54 (nI 24) dX7_ask_52 rfl (by decide) ?_
      refine s_icmp_neN C 60 57 dX7_ask_54 (by decide) rfl (by omega) (by omega) (fun z54 => ?_) (fun z54 => ?_)
      · skip
        have hyes : ((a = nI 32 ∨ isL a = true) ∧ ¬ (a = nI 32 ∧ qeB ql q = false) ∧ ql < 24) := ⟨h32, hw, by omega⟩
        refine s_aload_n C 61 dX7_ask_60 rfl rfl ?_
        refine s_invV C 64 0 0 [] (mRv_of hO rfl) dX7_ask_61 rfl m_X7_231 (n_record hO hS hx8 hok hH hHr hc6) rfl rfl rfl ⟨by decide, by decide⟩ (Nat.le_of_ble_eq_true rfl) (by omega) (by omega) ?_
        rintro _ M2 ⟨rfl, hO5, ⟨H5, hH5, hHr5⟩, hFr⟩
        dsimp only [Option.toList, List.cons_append, List.nil_append]
        have hS := hFr.at hS (by decide)
        have hX := hFr.at hX (by decide)
        have hSo := hFr.at hSo (by decide)
        have hSn := hFr.at hSn (by decide)
        have hQ := hFr.at hQ (by decide)
        have hK := hFr.at hK (by decide)
        have hP := hFr.at hP (by decide)
        have hZ := hFr.at hZ (by decide)
        have hW := hFr.at hW (by decide)
        have hU := hFr.at hU (by decide)
        have hO := hO5
        have hH := hH5
        have hF : mZ TM M M2 := (hFr.mono (by decide))
        have hHr := hHr5
        have hc6 : min (c + 1) 6 ≤ 6 := by omega
        refine s_aload_n C 65 dX7_ask_64 rfl rfl ?_
        refine s_getf C 68 dX7_ask_65 rfl f_X7_7 hO rfl ?_
        refine s_iconst C 69 (nI 4) dX7_ask_68 rfl (by decide) ?_
        refine s_iload_n C 70 dX7_ask_69 rfl rfl ?_
        refine s_iaddN C 71 dX7_ask_70 rfl ?_
        refine s_iload_n C 72 dX7_ask_71 rfl rfl ?_
        refine s_iastU C 73 dX7_ask_72 rfl hS (by first | decide | omega) (by omega) (by omega) (fun M3 U4 => ?_)
        have hO := U4.o hS hO (by first | decide | omega)
        have hX := U4.o hS hX (by first | decide | omega)
        have hSo := U4.o hS hSo (by first | decide | omega)
        have hSn := U4.o hS hSn (by first | decide | omega)
        have hH := U4.o hS hH (by first | decide | omega)
        have hQ := U4.o hS hQ (by first | decide | omega)
        have hK := U4.o hS hK (by first | decide | omega)
        have hP := U4.o hS hP (by first | decide | omega)
        have hZ := U4.o hS hZ (by first | decide | omega)
        have hW := U4.o hS hW (by first | decide | omega)
        have hU := U4.o hS hU (by first | decide | omega)
        have hF := hF.put U4 hS (by first | decide | (simp; done) | (simp; omega) | (simp [*]; done))
        have hS := U4.s
        refine s_aload_n C 74 dX7_ask_73 rfl rfl ?_
        refine s_getf C 77 dX7_ask_74 rfl f_X7_7 hO rfl ?_
        refine s_iconst C 78 (nI 3) dX7_ask_77 rfl (by decide) ?_
        refine s_dup2 C 79 dX7_ask_78 rfl rfl rfl ?_
        refine s_iald C 80 dX7_ask_79 rfl hS (by omega) (by omega) ?_
        rw [show upd S (4 + ql) a 3 = nI ql by (rw [pk_un (by omega)]; exact hx3)]
        refine s_iconst C 81 (nI 1) dX7_ask_80 rfl (by decide) ?_
        refine s_iaddN C 82 dX7_ask_81 rfl ?_
        refine s_iastU C 83 dX7_ask_82 rfl hS (by first | decide | omega) (by omega) (by omega) (fun M5 U6 => ?_)
        have hO := U6.o hS hO (by first | decide | omega)
        have hX := U6.o hS hX (by first | decide | omega)
        have hSo := U6.o hS hSo (by first | decide | omega)
        have hSn := U6.o hS hSn (by first | decide | omega)
        have hH := U6.o hS hH (by first | decide | omega)
        have hQ := U6.o hS hQ (by first | decide | omega)
        have hK := U6.o hS hK (by first | decide | omega)
        have hP := U6.o hS hP (by first | decide | omega)
        have hZ := U6.o hS hZ (by first | decide | omega)
        have hW := U6.o hS hW (by first | decide | omega)
        have hU := U6.o hS hU (by first | decide | omega)
        have hF := hF.put U6 hS (by first | decide | (simp; done) | (simp; omega) | (simp [*]; done))
        have hS := U6.s
        refine s_aload_n C 84 dX7_ask_83 rfl rfl ?_
        have hn6 : nR M5 m (T, mo, od, ql + 1, upd q ql a, ln, fl, us) (min (c + 1) 6) (hPush (T, mo, od, ql, q, ln, fl, us) hs) tl g := ⟨_, _, _, _, _, _, _, _, _, _, _, _, _, _, _, _, _, _, _, _, _, _, _, _, _, _, _, _, _, _, _, hO, hS, (show SR _ T mo od (ql + 1) (upd q ql a) ln fl us from SR_q hx8 (fun i hi => by rw [pk_un (by omega), pk_un (by omega)]) pk_us (fun k hk => by rw [pk_un (by omega)]; by_cases e : k = ql; (· rw [e, pk_us, pk_us]); rw [pk_un (by omega), pk_un e]; exact hxq k (by omega))), hH, hHr, hc6, hX, hXg, htl, hSo, hSn, hQ, hK, hP, hZ, hW, hU, (okX_ask hok (by omega) hw)⟩
        refine s_invV C 87 0 0 [] (nR_rv hn6) dX7_ask_84 rfl m_X7_261 (nn_resultsMany hn6) rfl rfl rfl ⟨by decide, by decide⟩ (Nat.le_of_ble_eq_true rfl) (by omega) (by omega) ?_
        rintro _ M7 ⟨rfl, hn7, hFm⟩
        dsimp only [Option.toList, List.cons_append, List.nil_append]
        exact s_iret C dX7_ask_87 Tr rfl ⟨by rw [if_neg (not_not_intro h32), if_neg hw, if_neg (by omega)], by rw [if_pos hyes, if_pos hyes, if_pos hyes]; exact hn7, hF.tr hFm⟩
      · skip
        have hno : ¬ ((a = nI 32 ∨ isL a = true) ∧ ¬ (a = nI 32 ∧ qeB ql q = false) ∧ ql < 24) := fun w => by have := w.2.2; omega
        refine s_bipush C 59 (-4) dX7_ask_57 rfl (by decide) ?_
        exact s_iret C dX7_ask_59 Tr rfl ⟨by rw [if_neg (not_not_intro h32), if_neg hw, if_pos (by omega)], by rw [if_neg hno, if_neg hno, if_neg hno]; exact ⟨_, _, _, _, _, _, _, _, _, _, _, _, _, _, _, _, _, _, _, _, _, _, _, _, _, _, _, _, _, _, _, hO, hS, hx8, hH, hHr, hc6, hX, hXg, htl, hSo, hSn, hQ, hK, hP, hZ, hW, hU, hok⟩, mZ.rf⟩
    · skip
      refine s_iload_n C 30 dX7_ask_29 rfl rfl ?_
      refine s_if_eqN C 48 33 dX7_ask_30 (by decide) rfl (by omega) (fun z30 => ?_) (fun z30 => ?_)
      · skip
        have hw : a = nI 32 ∧ qeB ql q = false := ⟨z26, decide_eq_false (fun w => by have := w.1; omega)⟩
        have hno : ¬ ((a = nI 32 ∨ isL a = true) ∧ ¬ (a = nI 32 ∧ qeB ql q = false) ∧ ql < 24) := fun w => w.2.1 hw
        refine s_bipush C 50 (-3) dX7_ask_48 rfl (by decide) ?_
        exact s_iret C dX7_ask_50 Tr rfl ⟨by rw [if_neg (not_not_intro h32), if_pos hw], by rw [if_neg hno, if_neg hno, if_neg hno]; exact ⟨_, _, _, _, _, _, _, _, _, _, _, _, _, _, _, _, _, _, _, _, _, _, _, _, _, _, _, _, _, _, _, hO, hS, hx8, hH, hHr, hc6, hX, hXg, htl, hSo, hSn, hQ, hK, hP, hZ, hW, hU, hok⟩, mZ.rf⟩
      · skip
        refine s_aload_n C 34 dX7_ask_33 rfl rfl ?_
        refine s_getf C 37 dX7_ask_34 rfl f_X7_7 hO rfl ?_
        refine s_iconst C 38 (nI 4) dX7_ask_37 rfl (by decide) ?_
        refine s_iload_n C 39 dX7_ask_38 rfl rfl ?_
        refine s_iaddN C 40 dX7_ask_39 rfl ?_
        refine s_iconst C 41 (nI 1) dX7_ask_40 rfl (by decide) ?_
        refine s_isubN C 42 dX7_ask_41 rfl (by omega) ?_
        refine s_iald C 43 dX7_ask_42 rfl hS (by omega) (by omega) ?_
        rw [show S (4 + ql - 1) = q (ql - 1) by (rw [show 4 + ql - 1 = 4 + (ql - 1) by omega]; exact hxq _ (by omega))]
        refine s_bipush C 45 (nI 32) dX7_ask_43 rfl (by decide) ?_
        refine s_icmp_ne C 51 48 dX7_ask_45 (by decide) rfl (fun z45 => ?_) (fun z45 => ?_)
        · skip
          have hw : ¬ (a = nI 32 ∧ qeB ql q = false) := fun w => (of_decide_eq_false w.2) ⟨by omega, z45⟩
          refine s_iload_n C 52 dX7_ask_51 rfl rfl ?_
          refine s_bipush C 54 (nI 24) dX7_ask_52 rfl (by decide) ?_
          refine s_icmp_neN C 60 57 dX7_ask_54 (by decide) rfl (by omega) (by omega) (fun z54 => ?_) (fun z54 => ?_)
          · skip
            have hyes : ((a = nI 32 ∨ isL a = true) ∧ ¬ (a = nI 32 ∧ qeB ql q = false) ∧ ql < 24) := ⟨h32, hw, by omega⟩
            refine s_aload_n C 61 dX7_ask_60 rfl rfl ?_
            refine s_invV C 64 0 0 [] (mRv_of hO rfl) dX7_ask_61 rfl m_X7_231 (n_record hO hS hx8 hok hH hHr hc6) rfl rfl rfl ⟨by decide, by decide⟩ (Nat.le_of_ble_eq_true rfl) (by omega) (by omega) ?_
            rintro _ M8 ⟨rfl, hO5, ⟨H5, hH5, hHr5⟩, hFr⟩
            dsimp only [Option.toList, List.cons_append, List.nil_append]
            have hS := hFr.at hS (by decide)
            have hX := hFr.at hX (by decide)
            have hSo := hFr.at hSo (by decide)
            have hSn := hFr.at hSn (by decide)
            have hQ := hFr.at hQ (by decide)
            have hK := hFr.at hK (by decide)
            have hP := hFr.at hP (by decide)
            have hZ := hFr.at hZ (by decide)
            have hW := hFr.at hW (by decide)
            have hU := hFr.at hU (by decide)
            have hO := hO5
            have hH := hH5
            have hF : mZ TM M M8 := (hFr.mono (by decide))
            have hHr := hHr5
            have hc6 : min (c + 1) 6 ≤ 6 := by omega
            refine s_aload_n C 65 dX7_ask_64 rfl rfl ?_
            refine s_getf C 68 dX7_ask_65 rfl f_X7_7 hO rfl ?_
            refine s_iconst C 69 (nI 4) dX7_ask_68 rfl (by decide) ?_
            refine s_iload_n C 70 dX7_ask_69 rfl rfl ?_
            refine s_iaddN C 71 dX7_ask_70 rfl ?_
            refine s_iload_n C 72 dX7_ask_71 rfl rfl ?_
            refine s_iastU C 73 dX7_ask_72 rfl hS (by first | decide | omega) (by omega) (by omega) (fun M9 U10 => ?_)
            have hO := U10.o hS hO (by first | decide | omega)
            have hX := U10.o hS hX (by first | decide | omega)
            have hSo := U10.o hS hSo (by first | decide | omega)
            have hSn := U10.o hS hSn (by first | decide | omega)
            have hH := U10.o hS hH (by first | decide | omega)
            have hQ := U10.o hS hQ (by first | decide | omega)
            have hK := U10.o hS hK (by first | decide | omega)
            have hP := U10.o hS hP (by first | decide | omega)
            have hZ := U10.o hS hZ (by first | decide | omega)
            have hW := U10.o hS hW (by first | decide | omega)
            have hU := U10.o hS hU (by first | decide | omega)
            have hF := hF.put U10 hS (by first | decide | (simp; done) | (simp; omega) | (simp [*]; done))
            have hS := U10.s
            refine s_aload_n C 74 dX7_ask_73 rfl rfl ?_
            refine s_getf C 77 dX7_ask_74 rfl f_X7_7 hO rfl ?_
            refine s_iconst C 78 (nI 3) dX7_ask_77 rfl (by decide) ?_
            refine s_dup2 C 79 dX7_ask_78 rfl rfl rfl ?_
            refine s_iald C 80 dX7_ask_79 rfl hS (by omega) (by omega) ?_
            rw [show upd S (4 + ql) a 3 = nI ql by (rw [pk_un (by omega)]; exact hx3)]
            refine s_iconst C 81 (nI 1) dX7_ask_80 rfl (by decide) ?_
            refine s_iaddN C 82 dX7_ask_81 rfl ?_
            refine s_iastU C 83 dX7_ask_82 rfl hS (by first | decide | omega) (by omega) (by omega) (fun M11 U12 => ?_)
            have hO := U12.o hS hO (by first | decide | omega)
            have hX := U12.o hS hX (by first | decide | omega)
            have hSo := U12.o hS hSo (by first | decide | omega)
            have hSn := U12.o hS hSn (by first | decide | omega)
            have hH := U12.o hS hH (by first | decide | omega)
            have hQ := U12.o hS hQ (by first | decide | omega)
            have hK := U12.o hS hK (by first | decide | omega)
            have hP := U12.o hS hP (by first | decide | omega)
            have hZ := U12.o hS hZ (by first | decide | omega)
            have hW := U12.o hS hW (by first | decide | omega)
            have hU := U12.o hS hU (by first | decide | omega)
            have hF := hF.put U12 hS (by first | decide | (simp; done) | (simp; omega) | (simp [*]; done))
            have hS := U12.s
            refine s_aload_n C 84 dX7_ask_83 rfl rfl ?_
            have hn6 : nR M11 m (T, mo, od, ql + 1, upd q ql a, ln, fl, us) (min (c + 1) 6) (hPush (T, mo, od, ql, q, ln, fl, us) hs) tl g := ⟨_, _, _, _, _, _, _, _, _, _, _, _, _, _, _, _, _, _, _, _, _, _, _, _, _, _, _, _, _, _, _, hO, hS, (show SR _ T mo od (ql + 1) (upd q ql a) ln fl us from SR_q hx8 (fun i hi => by rw [pk_un (by omega), pk_un (by omega)]) pk_us (fun k hk => by rw [pk_un (by omega)]; by_cases e : k = ql; (· rw [e, pk_us, pk_us]); rw [pk_un (by omega), pk_un e]; exact hxq k (by omega))), hH, hHr, hc6, hX, hXg, htl, hSo, hSn, hQ, hK, hP, hZ, hW, hU, (okX_ask hok (by omega) hw)⟩
            refine s_invV C 87 0 0 [] (nR_rv hn6) dX7_ask_84 rfl m_X7_261 (nn_resultsMany hn6) rfl rfl rfl ⟨by decide, by decide⟩ (Nat.le_of_ble_eq_true rfl) (by omega) (by omega) ?_
            rintro _ M13 ⟨rfl, hn7, hFm⟩
            dsimp only [Option.toList, List.cons_append, List.nil_append]
            exact s_iret C dX7_ask_87 Tr rfl ⟨by rw [if_neg (not_not_intro h32), if_neg hw, if_neg (by omega)], by rw [if_pos hyes, if_pos hyes, if_pos hyes]; exact hn7, hF.tr hFm⟩
          · skip
            have hno : ¬ ((a = nI 32 ∨ isL a = true) ∧ ¬ (a = nI 32 ∧ qeB ql q = false) ∧ ql < 24) := fun w => by have := w.2.2; omega
            refine s_bipush C 59 (-4) dX7_ask_57 rfl (by decide) ?_
            exact s_iret C dX7_ask_59 Tr rfl ⟨by rw [if_neg (not_not_intro h32), if_neg hw, if_pos (by omega)], by rw [if_neg hno, if_neg hno, if_neg hno]; exact ⟨_, _, _, _, _, _, _, _, _, _, _, _, _, _, _, _, _, _, _, _, _, _, _, _, _, _, _, _, _, _, _, hO, hS, hx8, hH, hHr, hc6, hX, hXg, htl, hSo, hSn, hQ, hK, hP, hZ, hW, hU, hok⟩, mZ.rf⟩
        · skip
          have hw : a = nI 32 ∧ qeB ql q = false := ⟨z26, decide_eq_false (fun w => w.2 z45)⟩
          have hno : ¬ ((a = nI 32 ∨ isL a = true) ∧ ¬ (a = nI 32 ∧ qeB ql q = false) ∧ ql < 24) := fun w => w.2.1 hw
          refine s_bipush C 50 (-3) dX7_ask_48 rfl (by decide) ?_
          exact s_iret C dX7_ask_50 Tr rfl ⟨by rw [if_neg (not_not_intro h32), if_pos hw], by rw [if_neg hno, if_neg hno, if_neg hno]; exact ⟨_, _, _, _, _, _, _, _, _, _, _, _, _, _, _, _, _, _, _, _, _, _, _, _, _, _, _, _, _, _, _, hO, hS, hx8, hH, hHr, hc6, hX, hXg, htl, hSo, hSn, hQ, hK, hP, hZ, hW, hU, hok⟩, mZ.rf⟩
  · skip
    refine s_iload_n C 8 dX7_ask_7 rfl rfl ?_
    refine s_bipush C 10 (nI 32) dX7_ask_8 rfl (by decide) ?_
    refine s_icmp_eq C 16 13 dX7_ask_10 (by decide) rfl (fun z10 => ?_) (fun z10 => ?_)
    · skip
      have h32 : a = nI 32 ∨ isL a = true := Or.inl z10
      refine s_aload_n C 17 dX7_ask_16 rfl rfl ?_
      refine s_getf C 20 dX7_ask_17 rfl f_X7_7 hO rfl ?_
      refine s_iconst C 21 (nI 3) dX7_ask_20 rfl (by decide) ?_
      refine s_iald C 22 dX7_ask_21 rfl hS (by omega) (by omega) ?_
      rw [hx3]
      refine s_istore_n C 23 dX7_ask_22 rfl rfl rfl ?_
      dsimp only [List.set]
      refine s_iload_n C 24 dX7_ask_23 rfl rfl ?_
      refine s_bipush C 26 (nI 32) dX7_ask_24 rfl (by decide) ?_
      refine s_icmp_ne C 51 29 dX7_ask_26 (by decide) rfl (fun z26 => ?_) (fun z26 => ?_)
      · skip
        have hw : ¬ (a = nI 32 ∧ qeB ql q = false) := fun w => z26 w.1
        refine s_iload_n C 52 dX7_ask_51 rfl rfl ?_
        refine s_bipush C 54 (nI 24) dX7_ask_52 rfl (by decide) ?_
        refine s_icmp_neN C 60 57 dX7_ask_54 (by decide) rfl (by omega) (by omega) (fun z54 => ?_) (fun z54 => ?_)
        · skip
          have hyes : ((a = nI 32 ∨ isL a = true) ∧ ¬ (a = nI 32 ∧ qeB ql q = false) ∧ ql < 24) := ⟨h32, hw, by omega⟩
          refine s_aload_n C 61 dX7_ask_60 rfl rfl ?_
          refine s_invV C 64 0 0 [] (mRv_of hO rfl) dX7_ask_61 rfl m_X7_231 (n_record hO hS hx8 hok hH hHr hc6) rfl rfl rfl ⟨by decide, by decide⟩ (Nat.le_of_ble_eq_true rfl) (by omega) (by omega) ?_
          rintro _ M14 ⟨rfl, hO5, ⟨H5, hH5, hHr5⟩, hFr⟩
          dsimp only [Option.toList, List.cons_append, List.nil_append]
          have hS := hFr.at hS (by decide)
          have hX := hFr.at hX (by decide)
          have hSo := hFr.at hSo (by decide)
          have hSn := hFr.at hSn (by decide)
          have hQ := hFr.at hQ (by decide)
          have hK := hFr.at hK (by decide)
          have hP := hFr.at hP (by decide)
          have hZ := hFr.at hZ (by decide)
          have hW := hFr.at hW (by decide)
          have hU := hFr.at hU (by decide)
          have hO := hO5
          have hH := hH5
          have hF : mZ TM M M14 := (hFr.mono (by decide))
          have hHr := hHr5
          have hc6 : min (c + 1) 6 ≤ 6 := by omega
          refine s_aload_n C 65 dX7_ask_64 rfl rfl ?_
          refine s_getf C 68 dX7_ask_65 rfl f_X7_7 hO rfl ?_
          refine s_iconst C 69 (nI 4) dX7_ask_68 rfl (by decide) ?_
          refine s_iload_n C 70 dX7_ask_69 rfl rfl ?_
          refine s_iaddN C 71 dX7_ask_70 rfl ?_
          refine s_iload_n C 72 dX7_ask_71 rfl rfl ?_
          refine s_iastU C 73 dX7_ask_72 rfl hS (by first | decide | omega) (by omega) (by omega) (fun M15 U16 => ?_)
          have hO := U16.o hS hO (by first | decide | omega)
          have hX := U16.o hS hX (by first | decide | omega)
          have hSo := U16.o hS hSo (by first | decide | omega)
          have hSn := U16.o hS hSn (by first | decide | omega)
          have hH := U16.o hS hH (by first | decide | omega)
          have hQ := U16.o hS hQ (by first | decide | omega)
          have hK := U16.o hS hK (by first | decide | omega)
          have hP := U16.o hS hP (by first | decide | omega)
          have hZ := U16.o hS hZ (by first | decide | omega)
          have hW := U16.o hS hW (by first | decide | omega)
          have hU := U16.o hS hU (by first | decide | omega)
          have hF := hF.put U16 hS (by first | decide | (simp; done) | (simp; omega) | (simp [*]; done))
          have hS := U16.s
          refine s_aload_n C 74 dX7_ask_73 rfl rfl ?_
          refine s_getf C 77 dX7_ask_74 rfl f_X7_7 hO rfl ?_
          refine s_iconst C 78 (nI 3) dX7_ask_77 rfl (by decide) ?_
          refine s_dup2 C 79 dX7_ask_78 rfl rfl rfl ?_
          refine s_iald C 80 dX7_ask_79 rfl hS (by omega) (by omega) ?_
          rw [show upd S (4 + ql) a 3 = nI ql by (rw [pk_un (by omega)]; exact hx3)]
          refine s_iconst C 81 (nI 1) dX7_ask_80 rfl (by decide) ?_
          refine s_iaddN C 82 dX7_ask_81 rfl ?_
          refine s_iastU C 83 dX7_ask_82 rfl hS (by first | decide | omega) (by omega) (by omega) (fun M17 U18 => ?_)
          have hO := U18.o hS hO (by first | decide | omega)
          have hX := U18.o hS hX (by first | decide | omega)
          have hSo := U18.o hS hSo (by first | decide | omega)
          have hSn := U18.o hS hSn (by first | decide | omega)
          have hH := U18.o hS hH (by first | decide | omega)
          have hQ := U18.o hS hQ (by first | decide | omega)
          have hK := U18.o hS hK (by first | decide | omega)
          have hP := U18.o hS hP (by first | decide | omega)
          have hZ := U18.o hS hZ (by first | decide | omega)
          have hW := U18.o hS hW (by first | decide | omega)
          have hU := U18.o hS hU (by first | decide | omega)
          have hF := hF.put U18 hS (by first | decide | (simp; done) | (simp; omega) | (simp [*]; done))
          have hS := U18.s
          refine s_aload_n C 84 dX7_ask_83 rfl rfl ?_
          have hn6 : nR M17 m (T, mo, od, ql + 1, upd q ql a, ln, fl, us) (min (c + 1) 6) (hPush (T, mo, od, ql, q, ln, fl, us) hs) tl g := ⟨_, _, _, _, _, _, _, _, _, _, _, _, _, _, _, _, _, _, _, _, _, _, _, _, _, _, _, _, _, _, _, hO, hS, (show SR _ T mo od (ql + 1) (upd q ql a) ln fl us from SR_q hx8 (fun i hi => by rw [pk_un (by omega), pk_un (by omega)]) pk_us (fun k hk => by rw [pk_un (by omega)]; by_cases e : k = ql; (· rw [e, pk_us, pk_us]); rw [pk_un (by omega), pk_un e]; exact hxq k (by omega))), hH, hHr, hc6, hX, hXg, htl, hSo, hSn, hQ, hK, hP, hZ, hW, hU, (okX_ask hok (by omega) hw)⟩
          refine s_invV C 87 0 0 [] (nR_rv hn6) dX7_ask_84 rfl m_X7_261 (nn_resultsMany hn6) rfl rfl rfl ⟨by decide, by decide⟩ (Nat.le_of_ble_eq_true rfl) (by omega) (by omega) ?_
          rintro _ M19 ⟨rfl, hn7, hFm⟩
          dsimp only [Option.toList, List.cons_append, List.nil_append]
          exact s_iret C dX7_ask_87 Tr rfl ⟨by rw [if_neg (not_not_intro h32), if_neg hw, if_neg (by omega)], by rw [if_pos hyes, if_pos hyes, if_pos hyes]; exact hn7, hF.tr hFm⟩
        · skip
          have hno : ¬ ((a = nI 32 ∨ isL a = true) ∧ ¬ (a = nI 32 ∧ qeB ql q = false) ∧ ql < 24) := fun w => by have := w.2.2; omega
          refine s_bipush C 59 (-4) dX7_ask_57 rfl (by decide) ?_
          exact s_iret C dX7_ask_59 Tr rfl ⟨by rw [if_neg (not_not_intro h32), if_neg hw, if_pos (by omega)], by rw [if_neg hno, if_neg hno, if_neg hno]; exact ⟨_, _, _, _, _, _, _, _, _, _, _, _, _, _, _, _, _, _, _, _, _, _, _, _, _, _, _, _, _, _, _, hO, hS, hx8, hH, hHr, hc6, hX, hXg, htl, hSo, hSn, hQ, hK, hP, hZ, hW, hU, hok⟩, mZ.rf⟩
      · skip
        refine s_iload_n C 30 dX7_ask_29 rfl rfl ?_
        refine s_if_eqN C 48 33 dX7_ask_30 (by decide) rfl (by omega) (fun z30 => ?_) (fun z30 => ?_)
        · skip
          have hw : a = nI 32 ∧ qeB ql q = false := ⟨z26, decide_eq_false (fun w => by have := w.1; omega)⟩
          have hno : ¬ ((a = nI 32 ∨ isL a = true) ∧ ¬ (a = nI 32 ∧ qeB ql q = false) ∧ ql < 24) := fun w => w.2.1 hw
          refine s_bipush C 50 (-3) dX7_ask_48 rfl (by decide) ?_
          exact s_iret C dX7_ask_50 Tr rfl ⟨by rw [if_neg (not_not_intro h32), if_pos hw], by rw [if_neg hno, if_neg hno, if_neg hno]; exact ⟨_, _, _, _, _, _, _, _, _, _, _, _, _, _, _, _, _, _, _, _, _, _, _, _, _, _, _, _, _, _, _, hO, hS, hx8, hH, hHr, hc6, hX, hXg, htl, hSo, hSn, hQ, hK, hP, hZ, hW, hU, hok⟩, mZ.rf⟩
        · skip
          refine s_aload_n C 34 dX7_ask_33 rfl rfl ?_
          refine s_getf C 37 dX7_ask_34 rfl f_X7_7 hO rfl ?_
          refine s_iconst C 38 (nI 4) dX7_ask_37 rfl (by decide) ?_
          refine s_iload_n C 39 dX7_ask_38 rfl rfl ?_
          refine s_iaddN C 40 dX7_ask_39 rfl ?_
          refine s_iconst C 41 (nI 1) dX7_ask_40 rfl (by decide) ?_
          refine s_isubN C 42 dX7_ask_41 rfl (by omega) ?_
          refine s_iald C 43 dX7_ask_42 rfl hS (by omega) (by omega) ?_
          rw [show S (4 + ql - 1) = q (ql - 1) by (rw [show 4 + ql - 1 = 4 + (ql - 1) by omega]; exact hxq _ (by omega))]
          refine s_bipush C 45 (nI 32) dX7_ask_43 rfl (by decide) ?_
          refine s_icmp_ne C 51 48 dX7_ask_45 (by decide) rfl (fun z45 => ?_) (fun z45 => ?_)
          · skip
            have hw : ¬ (a = nI 32 ∧ qeB ql q = false) := fun w => (of_decide_eq_false w.2) ⟨by omega, z45⟩
            refine s_iload_n C 52 dX7_ask_51 rfl rfl ?_
            refine s_bipush C 54 (nI 24) dX7_ask_52 rfl (by decide) ?_
            refine s_icmp_neN C 60 57 dX7_ask_54 (by decide) rfl (by omega) (by omega) (fun z54 => ?_) (fun z54 => ?_)
            · skip
              have hyes : ((a = nI 32 ∨ isL a = true) ∧ ¬ (a = nI 32 ∧ qeB ql q = false) ∧ ql < 24) := ⟨h32, hw, by omega⟩
              refine s_aload_n C 61 dX7_ask_60 rfl rfl ?_
              refine s_invV C 64 0 0 [] (mRv_of hO rfl) dX7_ask_61 rfl m_X7_231 (n_record hO hS hx8 hok hH hHr hc6) rfl rfl rfl ⟨by decide, by decide⟩ (Nat.le_of_ble_eq_true rfl) (by omega) (by omega) ?_
              rintro _ M20 ⟨rfl, hO5, ⟨H5, hH5, hHr5⟩, hFr⟩
              dsimp only [Option.toList, List.cons_append, List.nil_append]
              have hS := hFr.at hS (by decide)
              have hX := hFr.at hX (by decide)
              have hSo := hFr.at hSo (by decide)
              have hSn := hFr.at hSn (by decide)
              have hQ := hFr.at hQ (by decide)
              have hK := hFr.at hK (by decide)
              have hP := hFr.at hP (by decide)
              have hZ := hFr.at hZ (by decide)
              have hW := hFr.at hW (by decide)
              have hU := hFr.at hU (by decide)
              have hO := hO5
              have hH := hH5
              have hF : mZ TM M M20 := (hFr.mono (by decide))
              have hHr := hHr5
              have hc6 : min (c + 1) 6 ≤ 6 := by omega
              refine s_aload_n C 65 dX7_ask_64 rfl rfl ?_
              refine s_getf C 68 dX7_ask_65 rfl f_X7_7 hO rfl ?_
              refine s_iconst C 69 (nI 4) dX7_ask_68 rfl (by decide) ?_
              refine s_iload_n C 70 dX7_ask_69 rfl rfl ?_
              refine s_iaddN C 71 dX7_ask_70 rfl ?_
              refine s_iload_n C 72 dX7_ask_71 rfl rfl ?_
              refine s_iastU C 73 dX7_ask_72 rfl hS (by first | decide | omega) (by omega) (by omega) (fun M21 U22 => ?_)
              have hO := U22.o hS hO (by first | decide | omega)
              have hX := U22.o hS hX (by first | decide | omega)
              have hSo := U22.o hS hSo (by first | decide | omega)
              have hSn := U22.o hS hSn (by first | decide | omega)
              have hH := U22.o hS hH (by first | decide | omega)
              have hQ := U22.o hS hQ (by first | decide | omega)
              have hK := U22.o hS hK (by first | decide | omega)
              have hP := U22.o hS hP (by first | decide | omega)
              have hZ := U22.o hS hZ (by first | decide | omega)
              have hW := U22.o hS hW (by first | decide | omega)
              have hU := U22.o hS hU (by first | decide | omega)
              have hF := hF.put U22 hS (by first | decide | (simp; done) | (simp; omega) | (simp [*]; done))
              have hS := U22.s
              refine s_aload_n C 74 dX7_ask_73 rfl rfl ?_
              refine s_getf C 77 dX7_ask_74 rfl f_X7_7 hO rfl ?_
              refine s_iconst C 78 (nI 3) dX7_ask_77 rfl (by decide) ?_
              refine s_dup2 C 79 dX7_ask_78 rfl rfl rfl ?_
              refine s_iald C 80 dX7_ask_79 rfl hS (by omega) (by omega) ?_
              rw [show upd S (4 + ql) a 3 = nI ql by (rw [pk_un (by omega)]; exact hx3)]
              refine s_iconst C 81 (nI 1) dX7_ask_80 rfl (by decide) ?_
              refine s_iaddN C 82 dX7_ask_81 rfl ?_
              refine s_iastU C 83 dX7_ask_82 rfl hS (by first | decide | omega) (by omega) (by omega) (fun M23 U24 => ?_)
              have hO := U24.o hS hO (by first | decide | omega)
              have hX := U24.o hS hX (by first | decide | omega)
              have hSo := U24.o hS hSo (by first | decide | omega)
              have hSn := U24.o hS hSn (by first | decide | omega)
              have hH := U24.o hS hH (by first | decide | omega)
              have hQ := U24.o hS hQ (by first | decide | omega)
              have hK := U24.o hS hK (by first | decide | omega)
              have hP := U24.o hS hP (by first | decide | omega)
              have hZ := U24.o hS hZ (by first | decide | omega)
              have hW := U24.o hS hW (by first | decide | omega)
              have hU := U24.o hS hU (by first | decide | omega)
              have hF := hF.put U24 hS (by first | decide | (simp; done) | (simp; omega) | (simp [*]; done))
              have hS := U24.s
              refine s_aload_n C 84 dX7_ask_83 rfl rfl ?_
              have hn6 : nR M23 m (T, mo, od, ql + 1, upd q ql a, ln, fl, us) (min (c + 1) 6) (hPush (T, mo, od, ql, q, ln, fl, us) hs) tl g := ⟨_, _, _, _, _, _, _, _, _, _, _, _, _, _, _, _, _, _, _, _, _, _, _, _, _, _, _, _, _, _, _, hO, hS, (show SR _ T mo od (ql + 1) (upd q ql a) ln fl us from SR_q hx8 (fun i hi => by rw [pk_un (by omega), pk_un (by omega)]) pk_us (fun k hk => by rw [pk_un (by omega)]; by_cases e : k = ql; (· rw [e, pk_us, pk_us]); rw [pk_un (by omega), pk_un e]; exact hxq k (by omega))), hH, hHr, hc6, hX, hXg, htl, hSo, hSn, hQ, hK, hP, hZ, hW, hU, (okX_ask hok (by omega) hw)⟩
              refine s_invV C 87 0 0 [] (nR_rv hn6) dX7_ask_84 rfl m_X7_261 (nn_resultsMany hn6) rfl rfl rfl ⟨by decide, by decide⟩ (Nat.le_of_ble_eq_true rfl) (by omega) (by omega) ?_
              rintro _ M25 ⟨rfl, hn7, hFm⟩
              dsimp only [Option.toList, List.cons_append, List.nil_append]
              exact s_iret C dX7_ask_87 Tr rfl ⟨by rw [if_neg (not_not_intro h32), if_neg hw, if_neg (by omega)], by rw [if_pos hyes, if_pos hyes, if_pos hyes]; exact hn7, hF.tr hFm⟩
            · skip
              have hno : ¬ ((a = nI 32 ∨ isL a = true) ∧ ¬ (a = nI 32 ∧ qeB ql q = false) ∧ ql < 24) := fun w => by have := w.2.2; omega
              refine s_bipush C 59 (-4) dX7_ask_57 rfl (by decide) ?_
              exact s_iret C dX7_ask_59 Tr rfl ⟨by rw [if_neg (not_not_intro h32), if_neg hw, if_pos (by omega)], by rw [if_neg hno, if_neg hno, if_neg hno]; exact ⟨_, _, _, _, _, _, _, _, _, _, _, _, _, _, _, _, _, _, _, _, _, _, _, _, _, _, _, _, _, _, _, hO, hS, hx8, hH, hHr, hc6, hX, hXg, htl, hSo, hSn, hQ, hK, hP, hZ, hW, hU, hok⟩, mZ.rf⟩
          · skip
            have hw : a = nI 32 ∧ qeB ql q = false := ⟨z26, decide_eq_false (fun w => w.2 z45)⟩
            have hno : ¬ ((a = nI 32 ∨ isL a = true) ∧ ¬ (a = nI 32 ∧ qeB ql q = false) ∧ ql < 24) := fun w => w.2.1 hw
            refine s_bipush C 50 (-3) dX7_ask_48 rfl (by decide) ?_
            exact s_iret C dX7_ask_50 Tr rfl ⟨by rw [if_neg (not_not_intro h32), if_pos hw], by rw [if_neg hno, if_neg hno, if_neg hno]; exact ⟨_, _, _, _, _, _, _, _, _, _, _, _, _, _, _, _, _, _, _, _, _, _, _, _, _, _, _, _, _, _, _, hO, hS, hx8, hH, hHr, hc6, hX, hXg, htl, hSo, hSn, hQ, hK, hP, hZ, hW, hU, hok⟩, mZ.rf⟩
    · skip
      have hv : ¬ (a = nI 32 ∨ isL a = true) := fun w => by rcases w with w | w; (· exact z10 w); rw [z4] at w; cases w
      have hno : ¬ ((a = nI 32 ∨ isL a = true) ∧ ¬ (a = nI 32 ∧ qeB ql q = false) ∧ ql < 24) := fun w => hv w.1
      refine s_bipush C 15 (-2) dX7_ask_13 rfl (by decide) ?_
      exact s_iret C dX7_ask_15 Tr rfl ⟨by rw [if_pos hv], by rw [if_neg hno, if_neg hno, if_neg hno]; exact ⟨_, _, _, _, _, _, _, _, _, _, _, _, _, _, _, _, _, _, _, _, _, _, _, _, _, _, _, _, _, _, _, hO, hS, hx8, hH, hHr, hc6, hX, hXg, htl, hSo, hSn, hQ, hK, hP, hZ, hW, hU, hok⟩, mZ.rf⟩

set_option maxRecDepth 100000 in
set_option maxHeartbeats 4000000 in
theorem nn_erase {G : mG} {M : mM} {m T mo od ql c tl : Nat} {q : Nat → Int32} {ln : Nat → Nat} {fl : Nat → Nat → Int32} {us : Nat → Int32} {hs : Nat → mSt} {g : Nat → Int32} (hn : nR M m (T, mo, od, ql, q, ln, fl, us) c hs tl g)  : CC G iX7_erase 0 0 [.ref m] M (fun r M1 => r = some (.int (if 0 < ql then nI (rkN T mo od (ql - 1) q ln fl us T).1 else -3)) ∧ nR M1 m (if 0 < ql then (T, mo, od, ql - 1, q, ln, fl, us) else (T, mo, od, ql, q, ln, fl, us)) (if 0 < ql then (min (c + 1) 6) else c) (if 0 < ql then (hPush (T, mo, od, ql, q, ln, fl, us) hs) else hs) tl g ∧ mZ TM M M1) := by
  refine CC.of rfl (Nat.le_of_ble_eq_true rfl) rfl (fun X C Tr => ?_)
  show V X 0 0 0 [some (.ref m)] [] M
  obtain ⟨sa, ha, xa, ra, la, qa, al, ka, rm, pa, fs, fe, za, wa, ua, ap, cm, nu, be, en, S, H, xt, so, sn, Q, K, P, Z, W, U, hO, hS, hx, hH, hHr, hc6, hX, hXg, htl, hSo, hSn, hQ, hK, hP, hZ, hW, hU, hok⟩ := hn.get
  have hx8 := hx
  obtain ⟨hx0, hx1, hx2, hx3, hxq, hxt⟩ := hx
  have hT16 := hok.T16
  have hm4 := hok.m4
  have ho3 := hok.o3
  have hq24 := hok.q24
  refine s_aload_n C 1 dX7_erase_0 rfl rfl ?_
  refine s_getf C 4 dX7_erase_1 rfl f_X7_7 hO rfl ?_
  refine s_iconst C 5 (nI 3) dX7_erase_4 rfl (by decide) ?_
  refine s_iald C 6 dX7_erase_5 rfl hS (by omega) (by omega) ?_
  rw [hx3]
  refine s_if_neN C 12 9 dX7_erase_6 (by decide) rfl (by omega) (fun z6 => ?_) (fun z6 => ?_)
  · skip
    have hq0 : 0 < ql := by omega
    refine s_aload_n C 13 dX7_erase_12 rfl rfl ?_
    refine s_invV C 16 0 0 [] (mRv_of hO rfl) dX7_erase_13 rfl m_X7_231 (n_record hO hS hx8 hok hH hHr hc6) rfl rfl rfl ⟨by decide, by decide⟩ (Nat.le_of_ble_eq_true rfl) (by omega) (by omega) ?_
    rintro _ M1 ⟨rfl, hO5, ⟨H5, hH5, hHr5⟩, hFr⟩
    dsimp only [Option.toList, List.cons_append, List.nil_append]
    have hS := hFr.at hS (by decide)
    have hX := hFr.at hX (by decide)
    have hSo := hFr.at hSo (by decide)
    have hSn := hFr.at hSn (by decide)
    have hQ := hFr.at hQ (by decide)
    have hK := hFr.at hK (by decide)
    have hP := hFr.at hP (by decide)
    have hZ := hFr.at hZ (by decide)
    have hW := hFr.at hW (by decide)
    have hU := hFr.at hU (by decide)
    have hO := hO5
    have hH := hH5
    have hF : mZ TM M M1 := (hFr.mono (by decide))
    have hHr := hHr5
    have hc6 : min (c + 1) 6 ≤ 6 := by omega
    refine s_aload_n C 17 dX7_erase_16 rfl rfl ?_
    refine s_getf C 20 dX7_erase_17 rfl f_X7_7 hO rfl ?_
    refine s_iconst C 21 (nI 3) dX7_erase_20 rfl (by decide) ?_
    refine s_dup2 C 22 dX7_erase_21 rfl rfl rfl ?_
    refine s_iald C 23 dX7_erase_22 rfl hS (by omega) (by omega) ?_
    rw [hx3]
    refine s_iconst C 24 (nI 1) dX7_erase_23 rfl (by decide) ?_
    refine s_isubN C 25 dX7_erase_24 rfl (by omega) ?_
    refine s_iastU C 26 dX7_erase_25 rfl hS (by first | decide | omega) (by omega) (by omega) (fun M2 U3 => ?_)
    have hO := U3.o hS hO (by first | decide | omega)
    have hX := U3.o hS hX (by first | decide | omega)
    have hSo := U3.o hS hSo (by first | decide | omega)
    have hSn := U3.o hS hSn (by first | decide | omega)
    have hH := U3.o hS hH (by first | decide | omega)
    have hQ := U3.o hS hQ (by first | decide | omega)
    have hK := U3.o hS hK (by first | decide | omega)
    have hP := U3.o hS hP (by first | decide | omega)
    have hZ := U3.o hS hZ (by first | decide | omega)
    have hW := U3.o hS hW (by first | decide | omega)
    have hU := U3.o hS hU (by first | decide | omega)
    have hF := hF.put U3 hS (by first | decide | (simp; done) | (simp; omega) | (simp [*]; done))
    have hS := U3.s
    refine s_aload_n C 27 dX7_erase_26 rfl rfl ?_
    refine s_getf C 30 dX7_erase_27 rfl f_X7_7 hO rfl ?_
    refine s_iconst C 31 (nI 4) dX7_erase_30 rfl (by decide) ?_
    refine s_aload_n C 32 dX7_erase_31 rfl rfl ?_
    refine s_getf C 35 dX7_erase_32 rfl f_X7_7 hO rfl ?_
    refine s_iconst C 36 (nI 3) dX7_erase_35 rfl (by decide) ?_
    refine s_iald C 37 dX7_erase_36 rfl hS (by omega) (by omega) ?_
    rw [pk_us]
    refine s_iaddN C 38 dX7_erase_37 rfl ?_
    refine s_iconst C 39 (nI 0) dX7_erase_38 rfl (by decide) ?_
    refine s_iastU C 40 dX7_erase_39 rfl hS (by first | decide | omega) (by omega) (by omega) (fun M4 U5 => ?_)
    have hO := U5.o hS hO (by first | decide | omega)
    have hX := U5.o hS hX (by first | decide | omega)
    have hSo := U5.o hS hSo (by first | decide | omega)
    have hSn := U5.o hS hSn (by first | decide | omega)
    have hH := U5.o hS hH (by first | decide | omega)
    have hQ := U5.o hS hQ (by first | decide | omega)
    have hK := U5.o hS hK (by first | decide | omega)
    have hP := U5.o hS hP (by first | decide | omega)
    have hZ := U5.o hS hZ (by first | decide | omega)
    have hW := U5.o hS hW (by first | decide | omega)
    have hU := U5.o hS hU (by first | decide | omega)
    have hF := hF.put U5 hS (by first | decide | (simp; done) | (simp; omega) | (simp [*]; done))
    have hS := U5.s
    refine s_aload_n C 41 dX7_erase_40 rfl rfl ?_
    have hn6 : nR M4 m (T, mo, od, ql - 1, q, ln, fl, us) (min (c + 1) 6) (hPush (T, mo, od, ql, q, ln, fl, us) hs) tl g := ⟨_, _, _, _, _, _, _, _, _, _, _, _, _, _, _, _, _, _, _, _, _, _, _, _, _, _, _, _, _, _, _, hO, hS, (show SR _ T mo od (ql - 1) q ln fl us from SR_q hx8 (fun i hi => by rw [pk_un (by omega), pk_un (by omega)]) (by rw [pk_un (by omega)]; exact pk_us) (fun k hk => by rw [pk_un (by omega), pk_un (by omega)]; exact hxq k (by omega))), hH, hHr, hc6, hX, hXg, htl, hSo, hSn, hQ, hK, hP, hZ, hW, hU, (show okX T mo od (ql - 1) q ln fl from okX_ql hok (by omega))⟩
    refine s_invV C 44 0 0 [] (nR_rv hn6) dX7_erase_41 rfl m_X7_261 (nn_resultsMany hn6) rfl rfl rfl ⟨by decide, by decide⟩ (Nat.le_of_ble_eq_true rfl) (by omega) (by omega) ?_
    rintro _ M6 ⟨rfl, hn7, hFm⟩
    dsimp only [Option.toList, List.cons_append, List.nil_append]
    exact s_iret C dX7_erase_44 Tr rfl ⟨by rw [if_pos hq0], by rw [if_pos hq0, if_pos hq0, if_pos hq0]; exact hn7, hF.tr hFm⟩
  · skip
    refine s_bipush C 11 (-3) dX7_erase_9 rfl (by decide) ?_
    exact s_iret C dX7_erase_11 Tr rfl ⟨by rw [if_neg (by omega)], by rw [if_neg (by omega), if_neg (by omega), if_neg (by omega)]; exact ⟨_, _, _, _, _, _, _, _, _, _, _, _, _, _, _, _, _, _, _, _, _, _, _, _, _, _, _, _, _, _, _, hO, hS, hx8, hH, hHr, hc6, hX, hXg, htl, hSo, hSn, hQ, hK, hP, hZ, hW, hU, hok⟩, mZ.rf⟩

set_option maxRecDepth 100000 in
set_option maxHeartbeats 4000000 in
theorem nn_ofTitle {G : mG} {M : mM} {m T mo od ql c tl : Nat} {q : Nat → Int32} {ln : Nat → Nat} {fl : Nat → Nat → Int32} {us : Nat → Int32} {hs : Nat → mSt} {g : Nat → Int32} (hn : nR M m (T, mo, od, ql, q, ln, fl, us) c hs tl g) {t w : Nat} (ht : t < T) (hw : w < 7) : CC G iX7_ofTitle 0 0 [.ref m, .int (nI t), .int (nI w)] M (fun r M1 => r = some (.int (ofN (ln t) (1 + cnB (fl t) (ln t)) (us t) (kyN T mo ln fl t).1 (kyN T mo ln fl t).2 (shN T mo od ln fl us t).1 (shN T mo od ln fl us t).2 w)) ∧ nR M1 m (T, mo, od, ql, q, ln, fl, us) c hs tl g ∧ mZ TM M M1) := by
  refine CC.of rfl (Nat.le_of_ble_eq_true rfl) rfl (fun X C Tr => ?_)
  show V X 0 0 0 [some (.ref m), some (.int (nI t)), some (.int (nI w))] [] M
  obtain ⟨sa, ha, xa, ra, la, qa, al, ka, rm, pa, fs, fe, za, wa, ua, ap, cm, nu, be, en, S, H, xt, so, sn, Q, K, P, Z, W, U, hO, hS, hx, hH, hHr, hc6, hX, hXg, htl, hSo, hSn, hQ, hK, hP, hZ, hW, hU, hok⟩ := hn.get
  have hx8 := hx
  obtain ⟨hx0, hx1, hx2, hx3, hxq, hxt⟩ := hx
  have hT16 := hok.T16
  have hm4 := hok.m4
  have ho3 := hok.o3
  have hq24 := hok.q24
  by_cases wc0 : w = 0
  · skip
    subst wc0
    refine s_iload_n C 1 dX7_ofTitle_0 rfl rfl ?_
    refine s_iconst C 2 (nI 3) dX7_ofTitle_1 rfl (by decide) ?_
    refine s_icmp_geN C 37 5 dX7_ofTitle_2 (by decide) rfl (by omega) (by omega) (fun z2 => ?_) (fun z2 => ?_)
    · skip
      omega
    · skip
      refine s_iload_n C 6 dX7_ofTitle_5 rfl rfl ?_
      refine s_if_neN C 17 9 dX7_ofTitle_6 (by decide) rfl (by omega) (fun z6 => ?_) (fun z6 => ?_)
      · skip
        omega
      · skip
        refine s_aload_n C 10 dX7_ofTitle_9 rfl rfl ?_
        refine s_iload_n C 11 dX7_ofTitle_10 rfl rfl ?_
        refine s_invV C 14 0 0 [] (mRv_of hO rfl) dX7_ofTitle_11 rfl m_X7_58 (n_len hO hS hx8 (t := t) (by omega) hT16) rfl rfl rfl ⟨by decide, by decide⟩ (Nat.le_of_ble_eq_true rfl) (by omega) (by omega) ?_
        rintro _ M1 ⟨rfl, rfl⟩
        dsimp only [Option.toList, List.cons_append, List.nil_append]
        refine s_goto C 36 dX7_ofTitle_14 (by decide) ?_
        exact s_iret C dX7_ofTitle_36 Tr rfl ⟨rfl, ⟨_, _, _, _, _, _, _, _, _, _, _, _, _, _, _, _, _, _, _, _, _, _, _, _, _, _, _, _, _, _, _, hO, hS, hx8, hH, hHr, hc6, hX, hXg, htl, hSo, hSn, hQ, hK, hP, hZ, hW, hU, hok⟩, mZ.rf⟩
  by_cases wc1 : w = 1
  · skip
    subst wc1
    refine s_iload_n C 1 dX7_ofTitle_0 rfl rfl ?_
    refine s_iconst C 2 (nI 3) dX7_ofTitle_1 rfl (by decide) ?_
    refine s_icmp_geN C 37 5 dX7_ofTitle_2 (by decide) rfl (by omega) (by omega) (fun z2 => ?_) (fun z2 => ?_)
    · skip
      omega
    · skip
      refine s_iload_n C 6 dX7_ofTitle_5 rfl rfl ?_
      refine s_if_neN C 17 9 dX7_ofTitle_6 (by decide) rfl (by omega) (fun z6 => ?_) (fun z6 => ?_)
      · skip
        refine s_iload_n C 18 dX7_ofTitle_17 rfl rfl ?_
        refine s_iconst C 19 (nI 1) dX7_ofTitle_18 rfl (by decide) ?_
        refine s_icmp_neN C 30 22 dX7_ofTitle_19 (by decide) rfl (by omega) (by omega) (fun z19 => ?_) (fun z19 => ?_)
        · skip
          omega
        · skip
          refine s_aload_n C 23 dX7_ofTitle_22 rfl rfl ?_
          refine s_iload_n C 24 dX7_ofTitle_23 rfl rfl ?_
          refine s_invV C 27 0 0 [] (mRv_of hO rfl) dX7_ofTitle_24 rfl m_X7_243 (n_words hO hS hx8 hok ht) rfl rfl rfl ⟨by decide, by decide⟩ (Nat.le_of_ble_eq_true rfl) (by omega) (by omega) ?_
          rintro _ M2 ⟨rfl, rfl⟩
          dsimp only [Option.toList, List.cons_append, List.nil_append]
          refine s_goto C 36 dX7_ofTitle_27 (by decide) ?_
          exact s_iret C dX7_ofTitle_36 Tr rfl ⟨rfl, ⟨_, _, _, _, _, _, _, _, _, _, _, _, _, _, _, _, _, _, _, _, _, _, _, _, _, _, _, _, _, _, _, hO, hS, hx8, hH, hHr, hc6, hX, hXg, htl, hSo, hSn, hQ, hK, hP, hZ, hW, hU, hok⟩, mZ.rf⟩
      · skip
        omega
  by_cases wc2 : w = 2
  · skip
    subst wc2
    refine s_iload_n C 1 dX7_ofTitle_0 rfl rfl ?_
    refine s_iconst C 2 (nI 3) dX7_ofTitle_1 rfl (by decide) ?_
    refine s_icmp_geN C 37 5 dX7_ofTitle_2 (by decide) rfl (by omega) (by omega) (fun z2 => ?_) (fun z2 => ?_)
    · skip
      omega
    · skip
      refine s_iload_n C 6 dX7_ofTitle_5 rfl rfl ?_
      refine s_if_neN C 17 9 dX7_ofTitle_6 (by decide) rfl (by omega) (fun z6 => ?_) (fun z6 => ?_)
      · skip
        refine s_iload_n C 18 dX7_ofTitle_17 rfl rfl ?_
        refine s_iconst C 19 (nI 1) dX7_ofTitle_18 rfl (by decide) ?_
        refine s_icmp_neN C 30 22 dX7_ofTitle_19 (by decide) rfl (by omega) (by omega) (fun z19 => ?_) (fun z19 => ?_)
        · skip
          refine s_aload_n C 31 dX7_ofTitle_30 rfl rfl ?_
          refine s_iload_n C 32 dX7_ofTitle_31 rfl rfl ?_
          refine s_iconst C 33 (nI 1) dX7_ofTitle_32 rfl (by decide) ?_
          refine s_invV C 36 0 0 [] (mRv_of hO rfl) dX7_ofTitle_33 rfl m_X7_51 (n_part hO hS (t := t) (k := 1) (by omega)) rfl rfl rfl ⟨by decide, by decide⟩ (Nat.le_of_ble_eq_true rfl) (by omega) (by omega) ?_
          rintro _ M3 ⟨rfl, rfl⟩
          dsimp only [Option.toList, List.cons_append, List.nil_append]
          rw [show 28 + 26 * t + 1 = 29 + 26 * t by omega, (hxt t (by omega)).2.1]
          exact s_iret C dX7_ofTitle_36 Tr rfl ⟨rfl, ⟨_, _, _, _, _, _, _, _, _, _, _, _, _, _, _, _, _, _, _, _, _, _, _, _, _, _, _, _, _, _, _, hO, hS, hx8, hH, hHr, hc6, hX, hXg, htl, hSo, hSn, hQ, hK, hP, hZ, hW, hU, hok⟩, mZ.rf⟩
        · skip
          omega
      · skip
        omega
  by_cases wc3 : w = 3
  · skip
    subst wc3
    refine s_iload_n C 1 dX7_ofTitle_0 rfl rfl ?_
    refine s_iconst C 2 (nI 3) dX7_ofTitle_1 rfl (by decide) ?_
    refine s_icmp_geN C 37 5 dX7_ofTitle_2 (by decide) rfl (by omega) (by omega) (fun z2 => ?_) (fun z2 => ?_)
    · skip
      refine s_aload_n C 38 dX7_ofTitle_37 rfl rfl ?_
      refine s_invV C 41 0 0 [] (mRv_of hO rfl) dX7_ofTitle_38 rfl m_X7_87 (n_findSources hO hS hx8 hok hSo hSn) rfl rfl rfl ⟨by decide, by decide⟩ (Nat.le_of_ble_eq_true rfl) (by omega) (by omega) ?_
      rintro _ M4 ⟨rfl, ⟨so7, sn7, hSo7, hSn7, hsr⟩, hFs⟩
      dsimp only [Option.toList, List.cons_append, List.nil_append]
      have hO := hFs.at hO (by decide)
      have hS := hFs.at hS (by decide)
      have hX := hFs.at hX (by decide)
      have hH := hFs.at hH (by decide)
      have hQ := hFs.at hQ (by decide)
      have hK := hFs.at hK (by decide)
      have hP := hFs.at hP (by decide)
      have hZ := hFs.at hZ (by decide)
      have hW := hFs.at hW (by decide)
      have hU := hFs.at hU (by decide)
      have hSo := hSo7
      have hSn := hSn7
      refine s_aload_n C 42 dX7_ofTitle_41 rfl rfl ?_
      refine s_iload_n C 43 dX7_ofTitle_42 rfl rfl ?_
      refine s_iload_n C 44 dX7_ofTitle_43 rfl rfl ?_
      refine s_iconst C 45 (nI 5) dX7_ofTitle_44 rfl (by decide) ?_
      refine s_icmp_geN C 52 48 dX7_ofTitle_45 (by decide) rfl (by omega) (by omega) (fun z45 => ?_) (fun z45 => ?_)
      · skip
        omega
      · skip
        refine s_iconst C 49 (nI 1) dX7_ofTitle_48 rfl (by decide) ?_
        refine s_goto C 53 dX7_ofTitle_49 (by decide) ?_
        refine s_invV C 56 0 0 [] (mRv_of hO rfl) dX7_ofTitle_53 rfl m_X7_116 (n_findKey hO hS hx8 hok hSo hSn hsr hQ hP (t := t) (by omega)) rfl rfl rfl ⟨by decide, by decide⟩ (Nat.le_of_ble_eq_true rfl) (by omega) (by omega) ?_
        rintro _ M5 ⟨rfl, hO6, ⟨Q7, hQ7⟩, ⟨P7, hP7⟩, hFp⟩
        dsimp only [Option.toList, List.cons_append, List.nil_append]
        obtain ⟨al7, hO7⟩ := hO6
        have hS := hFp.at hS (by decide)
        have hX := hFp.at hX (by decide)
        have hSo := hFp.at hSo (by decide)
        have hSn := hFp.at hSn (by decide)
        have hH := hFp.at hH (by decide)
        have hK := hFp.at hK (by decide)
        have hZ := hFp.at hZ (by decide)
        have hW := hFp.at hW (by decide)
        have hU := hFp.at hU (by decide)
        have hO := hO7
        have hQ := hQ7
        have hP := hP7
        refine s_iload_n C 57 dX7_ofTitle_56 rfl rfl ?_
        refine s_iconst C 58 (nI 2) dX7_ofTitle_57 rfl (by decide) ?_
        refine s_irem C 59 dX7_ofTitle_58 rfl (by decide) ?_
        rw [show (nI 3) - (nI 3) / (nI 2) * (nI 2) = nI 1 by decide]
        refine s_iconst C 60 (nI 1) dX7_ofTitle_59 rfl (by decide) ?_
        refine s_icmp_neN C 70 63 dX7_ofTitle_60 (by decide) rfl (by omega) (by omega) (fun z60 => ?_) (fun z60 => ?_)
        · skip
          omega
        · skip
          refine s_aload_n C 64 dX7_ofTitle_63 rfl rfl ?_
          refine s_getf C 67 dX7_ofTitle_64 rfl f_X7_110 hO rfl ?_
          refine s_goto C 74 dX7_ofTitle_67 (by decide) ?_
          exact s_iret C dX7_ofTitle_74 Tr rfl ⟨rfl, ⟨_, _, _, _, _, _, _, _, _, _, _, _, _, _, _, _, _, _, _, _, _, _, _, _, _, _, _, _, _, _, _, hO, hS, hx8, hH, hHr, hc6, hX, hXg, htl, hSo, hSn, hQ, hK, hP, hZ, hW, hU, hok⟩, ((hFs.mono (by decide)).tr (hFp.mono (by decide)))⟩
    · skip
      omega
  by_cases wc4 : w = 4
  · skip
    subst wc4
    refine s_iload_n C 1 dX7_ofTitle_0 rfl rfl ?_
    refine s_iconst C 2 (nI 3) dX7_ofTitle_1 rfl (by decide) ?_
    refine s_icmp_geN C 37 5 dX7_ofTitle_2 (by decide) rfl (by omega) (by omega) (fun z2 => ?_) (fun z2 => ?_)
    · skip
      refine s_aload_n C 38 dX7_ofTitle_37 rfl rfl ?_
      refine s_invV C 41 0 0 [] (mRv_of hO rfl) dX7_ofTitle_38 rfl m_X7_87 (n_findSources hO hS hx8 hok hSo hSn) rfl rfl rfl ⟨by decide, by decide⟩ (Nat.le_of_ble_eq_true rfl) (by omega) (by omega) ?_
      rintro _ M6 ⟨rfl, ⟨so7, sn7, hSo7, hSn7, hsr⟩, hFs⟩
      dsimp only [Option.toList, List.cons_append, List.nil_append]
      have hO := hFs.at hO (by decide)
      have hS := hFs.at hS (by decide)
      have hX := hFs.at hX (by decide)
      have hH := hFs.at hH (by decide)
      have hQ := hFs.at hQ (by decide)
      have hK := hFs.at hK (by decide)
      have hP := hFs.at hP (by decide)
      have hZ := hFs.at hZ (by decide)
      have hW := hFs.at hW (by decide)
      have hU := hFs.at hU (by decide)
      have hSo := hSo7
      have hSn := hSn7
      refine s_aload_n C 42 dX7_ofTitle_41 rfl rfl ?_
      refine s_iload_n C 43 dX7_ofTitle_42 rfl rfl ?_
      refine s_iload_n C 44 dX7_ofTitle_43 rfl rfl ?_
      refine s_iconst C 45 (nI 5) dX7_ofTitle_44 rfl (by decide) ?_
      refine s_icmp_geN C 52 48 dX7_ofTitle_45 (by decide) rfl (by omega) (by omega) (fun z45 => ?_) (fun z45 => ?_)
      · skip
        omega
      · skip
        refine s_iconst C 49 (nI 1) dX7_ofTitle_48 rfl (by decide) ?_
        refine s_goto C 53 dX7_ofTitle_49 (by decide) ?_
        refine s_invV C 56 0 0 [] (mRv_of hO rfl) dX7_ofTitle_53 rfl m_X7_116 (n_findKey hO hS hx8 hok hSo hSn hsr hQ hP (t := t) (by omega)) rfl rfl rfl ⟨by decide, by decide⟩ (Nat.le_of_ble_eq_true rfl) (by omega) (by omega) ?_
        rintro _ M7 ⟨rfl, hO6, ⟨Q7, hQ7⟩, ⟨P7, hP7⟩, hFp⟩
        dsimp only [Option.toList, List.cons_append, List.nil_append]
        obtain ⟨al7, hO7⟩ := hO6
        have hS := hFp.at hS (by decide)
        have hX := hFp.at hX (by decide)
        have hSo := hFp.at hSo (by decide)
        have hSn := hFp.at hSn (by decide)
        have hH := hFp.at hH (by decide)
        have hK := hFp.at hK (by decide)
        have hZ := hFp.at hZ (by decide)
        have hW := hFp.at hW (by decide)
        have hU := hFp.at hU (by decide)
        have hO := hO7
        have hQ := hQ7
        have hP := hP7
        refine s_iload_n C 57 dX7_ofTitle_56 rfl rfl ?_
        refine s_iconst C 58 (nI 2) dX7_ofTitle_57 rfl (by decide) ?_
        refine s_irem C 59 dX7_ofTitle_58 rfl (by decide) ?_
        rw [show (nI 4) - (nI 4) / (nI 2) * (nI 2) = nI 0 by decide]
        refine s_iconst C 60 (nI 1) dX7_ofTitle_59 rfl (by decide) ?_
        refine s_icmp_neN C 70 63 dX7_ofTitle_60 (by decide) rfl (by omega) (by omega) (fun z60 => ?_) (fun z60 => ?_)
        · skip
          refine s_aload_n C 71 dX7_ofTitle_70 rfl rfl ?_
          refine s_getf C 74 dX7_ofTitle_71 rfl f_X7_113 hO rfl ?_
          exact s_iret C dX7_ofTitle_74 Tr rfl ⟨rfl, ⟨_, _, _, _, _, _, _, _, _, _, _, _, _, _, _, _, _, _, _, _, _, _, _, _, _, _, _, _, _, _, _, hO, hS, hx8, hH, hHr, hc6, hX, hXg, htl, hSo, hSn, hQ, hK, hP, hZ, hW, hU, hok⟩, ((hFs.mono (by decide)).tr (hFp.mono (by decide)))⟩
        · skip
          omega
    · skip
      omega
  by_cases wc5 : w = 5
  · skip
    subst wc5
    refine s_iload_n C 1 dX7_ofTitle_0 rfl rfl ?_
    refine s_iconst C 2 (nI 3) dX7_ofTitle_1 rfl (by decide) ?_
    refine s_icmp_geN C 37 5 dX7_ofTitle_2 (by decide) rfl (by omega) (by omega) (fun z2 => ?_) (fun z2 => ?_)
    · skip
      refine s_aload_n C 38 dX7_ofTitle_37 rfl rfl ?_
      refine s_invV C 41 0 0 [] (mRv_of hO rfl) dX7_ofTitle_38 rfl m_X7_87 (n_findSources hO hS hx8 hok hSo hSn) rfl rfl rfl ⟨by decide, by decide⟩ (Nat.le_of_ble_eq_true rfl) (by omega) (by omega) ?_
      rintro _ M8 ⟨rfl, ⟨so7, sn7, hSo7, hSn7, hsr⟩, hFs⟩
      dsimp only [Option.toList, List.cons_append, List.nil_append]
      have hO := hFs.at hO (by decide)
      have hS := hFs.at hS (by decide)
      have hX := hFs.at hX (by decide)
      have hH := hFs.at hH (by decide)
      have hQ := hFs.at hQ (by decide)
      have hK := hFs.at hK (by decide)
      have hP := hFs.at hP (by decide)
      have hZ := hFs.at hZ (by decide)
      have hW := hFs.at hW (by decide)
      have hU := hFs.at hU (by decide)
      have hSo := hSo7
      have hSn := hSn7
      refine s_aload_n C 42 dX7_ofTitle_41 rfl rfl ?_
      refine s_iload_n C 43 dX7_ofTitle_42 rfl rfl ?_
      refine s_iload_n C 44 dX7_ofTitle_43 rfl rfl ?_
      refine s_iconst C 45 (nI 5) dX7_ofTitle_44 rfl (by decide) ?_
      refine s_icmp_geN C 52 48 dX7_ofTitle_45 (by decide) rfl (by omega) (by omega) (fun z45 => ?_) (fun z45 => ?_)
      · skip
        refine s_iconst C 53 (nI 0) dX7_ofTitle_52 rfl (by decide) ?_
        refine s_invV C 56 0 0 [] (mRv_of hO rfl) dX7_ofTitle_53 rfl m_X7_116 (n_findShort hO hS hx8 hok hSo hSn hsr hQ hP (t := t) (by omega)) rfl rfl rfl ⟨by decide, by decide⟩ (Nat.le_of_ble_eq_true rfl) (by omega) (by omega) ?_
        rintro _ M9 ⟨rfl, hO6, ⟨Q7, hQ7⟩, ⟨P7, hP7⟩, hFp⟩
        dsimp only [Option.toList, List.cons_append, List.nil_append]
        obtain ⟨al7, hO7⟩ := hO6
        have hS := hFp.at hS (by decide)
        have hX := hFp.at hX (by decide)
        have hSo := hFp.at hSo (by decide)
        have hSn := hFp.at hSn (by decide)
        have hH := hFp.at hH (by decide)
        have hK := hFp.at hK (by decide)
        have hZ := hFp.at hZ (by decide)
        have hW := hFp.at hW (by decide)
        have hU := hFp.at hU (by decide)
        have hO := hO7
        have hQ := hQ7
        have hP := hP7
        refine s_iload_n C 57 dX7_ofTitle_56 rfl rfl ?_
        refine s_iconst C 58 (nI 2) dX7_ofTitle_57 rfl (by decide) ?_
        refine s_irem C 59 dX7_ofTitle_58 rfl (by decide) ?_
        rw [show (nI 5) - (nI 5) / (nI 2) * (nI 2) = nI 1 by decide]
        refine s_iconst C 60 (nI 1) dX7_ofTitle_59 rfl (by decide) ?_
        refine s_icmp_neN C 70 63 dX7_ofTitle_60 (by decide) rfl (by omega) (by omega) (fun z60 => ?_) (fun z60 => ?_)
        · skip
          omega
        · skip
          refine s_aload_n C 64 dX7_ofTitle_63 rfl rfl ?_
          refine s_getf C 67 dX7_ofTitle_64 rfl f_X7_110 hO rfl ?_
          refine s_goto C 74 dX7_ofTitle_67 (by decide) ?_
          exact s_iret C dX7_ofTitle_74 Tr rfl ⟨rfl, ⟨_, _, _, _, _, _, _, _, _, _, _, _, _, _, _, _, _, _, _, _, _, _, _, _, _, _, _, _, _, _, _, hO, hS, hx8, hH, hHr, hc6, hX, hXg, htl, hSo, hSn, hQ, hK, hP, hZ, hW, hU, hok⟩, ((hFs.mono (by decide)).tr (hFp.mono (by decide)))⟩
      · skip
        omega
    · skip
      omega
  by_cases wc6 : w = 6
  · skip
    subst wc6
    refine s_iload_n C 1 dX7_ofTitle_0 rfl rfl ?_
    refine s_iconst C 2 (nI 3) dX7_ofTitle_1 rfl (by decide) ?_
    refine s_icmp_geN C 37 5 dX7_ofTitle_2 (by decide) rfl (by omega) (by omega) (fun z2 => ?_) (fun z2 => ?_)
    · skip
      refine s_aload_n C 38 dX7_ofTitle_37 rfl rfl ?_
      refine s_invV C 41 0 0 [] (mRv_of hO rfl) dX7_ofTitle_38 rfl m_X7_87 (n_findSources hO hS hx8 hok hSo hSn) rfl rfl rfl ⟨by decide, by decide⟩ (Nat.le_of_ble_eq_true rfl) (by omega) (by omega) ?_
      rintro _ M10 ⟨rfl, ⟨so7, sn7, hSo7, hSn7, hsr⟩, hFs⟩
      dsimp only [Option.toList, List.cons_append, List.nil_append]
      have hO := hFs.at hO (by decide)
      have hS := hFs.at hS (by decide)
      have hX := hFs.at hX (by decide)
      have hH := hFs.at hH (by decide)
      have hQ := hFs.at hQ (by decide)
      have hK := hFs.at hK (by decide)
      have hP := hFs.at hP (by decide)
      have hZ := hFs.at hZ (by decide)
      have hW := hFs.at hW (by decide)
      have hU := hFs.at hU (by decide)
      have hSo := hSo7
      have hSn := hSn7
      refine s_aload_n C 42 dX7_ofTitle_41 rfl rfl ?_
      refine s_iload_n C 43 dX7_ofTitle_42 rfl rfl ?_
      refine s_iload_n C 44 dX7_ofTitle_43 rfl rfl ?_
      refine s_iconst C 45 (nI 5) dX7_ofTitle_44 rfl (by decide) ?_
      refine s_icmp_geN C 52 48 dX7_ofTitle_45 (by decide) rfl (by omega) (by omega) (fun z45 => ?_) (fun z45 => ?_)
      · skip
        refine s_iconst C 53 (nI 0) dX7_ofTitle_52 rfl (by decide) ?_
        refine s_invV C 56 0 0 [] (mRv_of hO rfl) dX7_ofTitle_53 rfl m_X7_116 (n_findShort hO hS hx8 hok hSo hSn hsr hQ hP (t := t) (by omega)) rfl rfl rfl ⟨by decide, by decide⟩ (Nat.le_of_ble_eq_true rfl) (by omega) (by omega) ?_
        rintro _ M11 ⟨rfl, hO6, ⟨Q7, hQ7⟩, ⟨P7, hP7⟩, hFp⟩
        dsimp only [Option.toList, List.cons_append, List.nil_append]
        obtain ⟨al7, hO7⟩ := hO6
        have hS := hFp.at hS (by decide)
        have hX := hFp.at hX (by decide)
        have hSo := hFp.at hSo (by decide)
        have hSn := hFp.at hSn (by decide)
        have hH := hFp.at hH (by decide)
        have hK := hFp.at hK (by decide)
        have hZ := hFp.at hZ (by decide)
        have hW := hFp.at hW (by decide)
        have hU := hFp.at hU (by decide)
        have hO := hO7
        have hQ := hQ7
        have hP := hP7
        refine s_iload_n C 57 dX7_ofTitle_56 rfl rfl ?_
        refine s_iconst C 58 (nI 2) dX7_ofTitle_57 rfl (by decide) ?_
        refine s_irem C 59 dX7_ofTitle_58 rfl (by decide) ?_
        rw [show (nI 6) - (nI 6) / (nI 2) * (nI 2) = nI 0 by decide]
        refine s_iconst C 60 (nI 1) dX7_ofTitle_59 rfl (by decide) ?_
        refine s_icmp_neN C 70 63 dX7_ofTitle_60 (by decide) rfl (by omega) (by omega) (fun z60 => ?_) (fun z60 => ?_)
        · skip
          refine s_aload_n C 71 dX7_ofTitle_70 rfl rfl ?_
          refine s_getf C 74 dX7_ofTitle_71 rfl f_X7_113 hO rfl ?_
          exact s_iret C dX7_ofTitle_74 Tr rfl ⟨rfl, ⟨_, _, _, _, _, _, _, _, _, _, _, _, _, _, _, _, _, _, _, _, _, _, _, _, _, _, _, _, _, _, _, hO, hS, hx8, hH, hHr, hc6, hX, hXg, htl, hSo, hSn, hQ, hK, hP, hZ, hW, hU, hok⟩, ((hFs.mono (by decide)).tr (hFp.mono (by decide)))⟩
        · skip
          omega
      · skip
        omega
    · skip
      omega
  omega

set_option maxRecDepth 100000 in
set_option maxHeartbeats 4000000 in
theorem nn_of {G : mG} {M : mM} {m T mo od ql c tl : Nat} {q : Nat → Int32} {ln : Nat → Nat} {fl : Nat → Nat → Int32} {us : Nat → Int32} {hs : Nat → mSt} {g : Nat → Int32} (hn : nR M m (T, mo, od, ql, q, ln, fl, us) c hs tl g) {a b : Int32} : CC G iX7_of 0 0 [.ref m, .int a, .int b] M (fun r M1 => r = some (.int (if (isIx a T) = true then (if (isIx b 7) = true then (ofN (ln a.toNatClampNeg) (1 + cnB (fl a.toNatClampNeg) (ln a.toNatClampNeg)) (us a.toNatClampNeg) (kyN T mo ln fl a.toNatClampNeg).1 (kyN T mo ln fl a.toNatClampNeg).2 (shN T mo od ln fl us a.toNatClampNeg).1 (shN T mo od ln fl us a.toNatClampNeg).2 b.toNatClampNeg) else -2) else -1)) ∧ nR M1 m (T, mo, od, ql, q, ln, fl, us) c hs tl g ∧ mZ TM M M1) := by
  refine CC.of rfl (Nat.le_of_ble_eq_true rfl) rfl (fun X C Tr => ?_)
  show V X 0 0 0 [some (.ref m), some (.int a), some (.int b)] [] M
  obtain ⟨sa, ha, xa, ra, la, qa, al, ka, rm, pa, fs, fe, za, wa, ua, ap, cm, nu, be, en, S, H, xt, so, sn, Q, K, P, Z, W, U, hO, hS, hx, hH, hHr, hc6, hX, hXg, htl, hSo, hSn, hQ, hK, hP, hZ, hW, hU, hok⟩ := hn.get
  have hx8 := hx
  obtain ⟨hx0, hx1, hx2, hx3, hxq, hxt⟩ := hx
  have hT16 := hok.T16
  have hm4 := hok.m4
  have ho3 := hok.o3
  have hq24 := hok.q24
  refine s_aload_n C 1 dX7_of_0 rfl rfl ?_
  refine s_iload_n C 2 dX7_of_1 rfl rfl ?_
  refine s_invV C 5 0 0 [] (mRv_of hO rfl) dX7_of_2 rfl m_X7_216 (n_isTitle hO hS hx8 hok (a := a)) rfl rfl rfl ⟨by decide, by decide⟩ (Nat.le_of_ble_eq_true rfl) (by omega) (by omega) ?_
  rintro _ M1 ⟨rfl, rfl⟩
  dsimp only [Option.toList, List.cons_append, List.nil_append]
  refine s_if_neB C 10 8 dX7_of_5 (by decide) rfl (fun z5 => ?_) (fun z5 => ?_)
  · skip
    obtain ⟨t, ht9, hqt⟩ := isIx_of (x := a) (c := T) z5 (by omega)
    subst hqt
    refine s_iload_n C 11 dX7_of_10 rfl rfl ?_
    refine s_iconst C 12 (nI 0) dX7_of_11 rfl (by decide) ?_
    refine s_bipush C 14 (nI 6) dX7_of_12 rfl (by decide) ?_
    refine s_invS C 17 0 0 [] dX7_of_14 rfl m_X7_47 (n_within) rfl rfl rfl ⟨by decide, by decide⟩ (Nat.le_of_ble_eq_true rfl) (by omega) (by omega) ?_
    rintro _ M2 ⟨rfl, rfl⟩
    dsimp only [Option.toList, List.cons_append, List.nil_append]
    rw [wiB_k (k := 6) (by omega)]
    refine s_if_eqB C 29 20 dX7_of_17 (by decide) rfl (fun z17 => ?_) (fun z17 => ?_)
    · skip
      have hz8 := z17
      refine s_bipush C 31 (-2) dX7_of_29 rfl (by decide) ?_
      exact s_iret C dX7_of_31 Tr rfl ⟨by rw [isIx_nI ht9 (by omega), if_pos rfl, hz8]; rfl, hn, mZ.rf⟩
    · skip
      obtain ⟨w, hw9, hqw⟩ := isIx_of (x := b) (c := 7) z17 (by omega)
      subst hqw
      refine s_aload_n C 21 dX7_of_20 rfl rfl ?_
      refine s_iload_n C 22 dX7_of_21 rfl rfl ?_
      refine s_iload_n C 23 dX7_of_22 rfl rfl ?_
      refine s_invV C 26 0 0 [] (nR_rv hn) dX7_of_23 rfl m_X7_246 (nn_ofTitle hn (t := t) (w := w) ht9 hw9) rfl rfl rfl ⟨by decide, by decide⟩ (Nat.le_of_ble_eq_true rfl) (by omega) (by omega) ?_
      rintro _ M3 ⟨rfl, hn7, hFo⟩
      dsimp only [Option.toList, List.cons_append, List.nil_append]
      refine s_goto C 31 dX7_of_26 (by decide) ?_
      exact s_iret C dX7_of_31 Tr rfl ⟨by rw [isIx_nI ht9 (by omega), isIx_nI hw9 (by omega), if_pos rfl, if_pos rfl, nI_clamp (by omega), nI_clamp (by omega)], hn7, hFo⟩
  · skip
    have hz9 := z5
    refine s_iconst C 9 (-1) dX7_of_8 rfl (by decide) ?_
    exact s_iret C dX7_of_9 Tr rfl ⟨by rw [hz9]; rfl, hn, mZ.rf⟩
