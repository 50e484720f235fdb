theorem obX_cv {x : mSt} {k v v' fr to fr' to' : Nat} {g : Nat → Int32} (h1 : (k = 1 ∨ k = 2 ∨ k = 3 ∨ k = 5) → v = v') (h : (k = 0 ∨ k = 4) → fr = fr' ∧ to = to') : obX x k v fr to g = obX x k v' fr' to' g := by
  rw [obX_c h]
  obtain ⟨T, mo, od, ql, q, ln, fl, us⟩ := x
  by_cases hk : k = 1 ∨ k = 2 ∨ k = 3 ∨ k = 5
  · rw [h1 hk]
  · have e1 : ¬ k = 1 := fun e => hk (Or.inl e)
    have e2 : ¬ k = 2 := fun e => hk (Or.inr (Or.inl e))
    have e3 : ¬ k = 3 := fun e => hk (Or.inr (Or.inr (Or.inl e)))
    have e5 : ¬ k = 5 := fun e => hk (Or.inr (Or.inr (Or.inr e)))
    simp only [obX, if_neg e1, if_neg e2, if_neg e3, if_neg e5]
/-- the place behind a command and its semicolon, in a plan -/
theorem co_next {g : Nat → Int32} {n d p : Nat} {x y : mSt} (hd : d ≤ p) (hp : p < n) (h80 : n ≤ 80) (hff : ffO g n (81 - d) p = none) (hob : obX x ((cmK g n p).getD 7) (cmV g n p) (cmP g n p) (cmA g n p) g = some y) {p2 : Nat} (hp2 : p2 = if tyA g n (cmA g n p) = nI 59 then cmA g n p + 1 else cmA g n p) : p2 ≤ n ∧ p < p2 ∧ coS g n (80 - d) p x d = coS g n (80 - (d + 1)) p2 y (d + 1) ∧ (p2 < n → ffO g n (81 - (d + 1)) p2 = none) := by
  rw [show 81 - d = (80 - d) + 1 by omega] at hff
  obtain ⟨h0, h1⟩ := ffO_none hff
  have hA := cmA_le (g := g) (n := n) (p := p) (by omega)
  have hl := cmP_lt (g := g) (n := n) (p := p) (by omega) h0
  rcases h1 with h1 | ⟨h1, h2⟩
  · have e : cmA g n p = n := by omega
    have hno : ¬ tyA g n (cmA g n p) = nI 59 := fun w => by have := ((tyA_eq (by omega)).mp w).1; omega
    rw [if_neg hno, e] at hp2
    refine ⟨by omega, by omega, ?_, fun w => by omega⟩
    rw [show 80 - d = (80 - (d + 1)) + 1 by omega, coS_last h0 hob (by unfold scB; rw [e]; exact decide_eq_false (fun w => absurd w.1 (Nat.lt_irrefl n))), hp2]
    exact (coS_no cmO_end).symm
  · have hs : tyA g n (cmA g n p) = nI 59 := of_decide_eq_true (by rw [scB_ty]; exact h1)
    have h3 := ((tyA_eq (by omega)).mp hs).1
    rw [if_pos hs] at hp2
    refine ⟨by omega, by omega, ?_, fun w => ?_⟩
    · rw [show 80 - d = (80 - (d + 1)) + 1 by omega, coS_next h0 hob h1, hp2]
    · rw [hp2, show 81 - (d + 1) = 80 - d by omega]; exact h2
set_option maxRecDepth 100000 in
set_option maxHeartbeats 4000000 in
theorem nn_carryOut {G : mG} {M : mM} {m T mo od ql c tl : Nat} {q : Nat → Int32} {ln : Nat → Nat} {fl : Nat → Nat → Int32} {us : Nat → Int32} {hs : Nat → mSt} {g : Nat → Int32} (hn : nR M m (T, mo, od, ql, q, ln, fl, us) c hs tl g)  : CC G iX7_carryOut 0 0 [.ref m] M (fun r M1 => r = some (.int (if ffO g tl 81 0 = none then nI (coS g tl 80 0 (T, mo, od, ql, q, ln, fl, us) 0).2 else -5)) ∧ nR M1 m (if ffO g tl 81 0 = none then (coS g tl 80 0 (T, mo, od, ql, q, ln, fl, us) 0).1 else (T, mo, od, ql, q, ln, fl, us)) (if ffO g tl 81 0 = none then (min (c + 1) 6) else c) (if ffO g tl 81 0 = none then (hPush (T, mo, od, ql, q, ln, fl, us) hs) else hs) (if ffO g tl 81 0 = none then 0 else tl) g ∧ mZ TM M M1) := by
  refine CC.of rfl (Nat.le_of_ble_eq_true rfl) rfl (fun X C Tr => ?_)
  show V X 0 0 0 [some (.ref m), none, none] [] M
  obtain ⟨sa, ha, xa, ra, la, qa, al, ka, rm, pa, fs, fe, za, wa, ua, ap, cm, nu, be, en, S, H, xt, so, sn, Q, K, P, Z, W, U, hO, hS, hx, hH, hHr, hc6, hX, hXg, htl, hSo, hSn, hQ, hK, hP, hZ, hW, hU, hok⟩ := hn.get
  have hx8 := hx
  obtain ⟨hx0, hx1, hx2, hx3, hxq, hxt⟩ := hx
  have hT16 := hok.T16
  have hm4 := hok.m4
  have ho3 := hok.o3
  have hq24 := hok.q24
  refine s_aload_n C 1 dX7_carryOut_0 rfl rfl ?_
  refine s_invV C 4 0 0 [] (mRv_of hO rfl) dX7_carryOut_1 rfl m_X7_200 (n_findError hO hX hXg htl) rfl rfl rfl ⟨by decide, by decide⟩ (Nat.le_of_ble_eq_true rfl) (by omega) (by omega) ?_
  rintro _ M1 ⟨rfl, hO6, hFe⟩
  dsimp only [Option.toList, List.cons_append, List.nil_append]
  obtain ⟨ap7, cm7, nu7, be7, en7, hO7⟩ := hO6
  have hS := hFe.at hS (by decide)
  have hX := hFe.at hX (by decide)
  have hSo := hFe.at hSo (by decide)
  have hSn := hFe.at hSn (by decide)
  have hH := hFe.at hH (by decide)
  have hQ := hFe.at hQ (by decide)
  have hK := hFe.at hK (by decide)
  have hP := hFe.at hP (by decide)
  have hZ := hFe.at hZ (by decide)
  have hW := hFe.at hW (by decide)
  have hU := hFe.at hU (by decide)
  have hO := hO7
  refine s_bipush C 6 (-6) dX7_carryOut_4 rfl (by decide) ?_
  refine s_icmp_eq C 12 9 dX7_carryOut_6 (by decide) rfl (fun z6 => ?_) (fun z6 => ?_)
  · skip
    have hyes : ffO g tl 81 0 = none := (oI_n (fun j hj => by have := ffO_lt 81 0 htl (Nat.zero_le _) j hj; omega)).mp z6
    refine s_aload_n C 13 dX7_carryOut_12 rfl rfl ?_
    refine s_invV C 16 0 0 [] (mRv_of hO rfl) dX7_carryOut_13 rfl m_X7_231 (n_record hO hS hx8 hok hH hHr hc6) rfl rfl rfl ⟨by decide, by decide⟩ (Nat.le_of_ble_eq_true rfl) (by omega) (by omega) ?_
    rintro _ M2 ⟨rfl, hO5, ⟨H5, hH5, hHr5⟩, hFr⟩
    dsimp only [Option.toList, List.cons_append, List.nil_append]
    have hS := hFr.at hS (by decide)
    have hX := hFr.at hX (by decide)
    have hSo := hFr.at hSo (by decide)
    have hSn := hFr.at hSn (by decide)
    have hQ := hFr.at hQ (by decide)
    have hK := hFr.at hK (by decide)
    have hP := hFr.at hP (by decide)
    have hZ := hFr.at hZ (by decide)
    have hW := hFr.at hW (by decide)
    have hU := hFr.at hU (by decide)
    have hO := hO5
    have hH := hH5
    have hF : mZ TM M1 M2 := (hFr.mono (by decide))
    have hHr := hHr5
    have hc6 : min (c + 1) 6 ≤ 6 := by omega
    have hF : mZ TM M M2 := (hFe.mono (by decide)).tr hF
    refine s_iconst C 17 (nI 0) dX7_carryOut_16 rfl (by decide) ?_
    refine s_istore_n C 18 dX7_carryOut_17 rfl rfl rfl ?_
    dsimp only [List.set]
    refine s_aload_n C 19 dX7_carryOut_18 rfl rfl ?_
    refine s_iconst C 20 (nI 0) dX7_carryOut_19 rfl (by decide) ?_
    refine s_putU C 23 dX7_carryOut_20 rfl p_X7_123 hO (by first | decide | omega) rfl rfl rfl (fs' := [.ref sa, .ref ha, .int (nI (min (c + 1) 6)), .ref xa, .int (nI tl), .ref ra, .ref la, .ref qa, .int (nI al), .ref ka, .int (nI rm), .ref pa, .int fs, .int fe, .ref za, .ref wa, .ref ua, .int (nI 0), .int cm7, .int (nI nu7), .int (nI be7), .int (nI en7)]) rfl (fun M3 U4 => ?_)
    have hS := U4.o hO hS (by first | decide | omega)
    have hX := U4.o hO hX (by first | decide | omega)
    have hSo := U4.o hO hSo (by first | decide | omega)
    have hSn := U4.o hO hSn (by first | decide | omega)
    have hH := U4.o hO hH (by first | decide | omega)
    have hQ := U4.o hO hQ (by first | decide | omega)
    have hK := U4.o hO hK (by first | decide | omega)
    have hP := U4.o hO hP (by first | decide | omega)
    have hZ := U4.o hO hZ (by first | decide | omega)
    have hW := U4.o hO hW (by first | decide | omega)
    have hU := U4.o hO hU (by first | decide | omega)
    have hF := hF.put U4 hO (by first | decide | (simp; done) | (simp; omega) | (simp [*]; done))
    have hO := U4.s
    refine s_iconst C 24 (nI 1) dX7_carryOut_23 rfl (by decide) ?_
    refine s_istore_n C 25 dX7_carryOut_24 rfl rfl rfl ?_
    dsimp only [List.set]
    have hn0 : nC M3 m (T, mo, od, ql, q, ln, fl, us) (min (c + 1) 6) (hPush (T, mo, od, ql, q, ln, fl, us) hs) tl g 0 cm7 nu7 be7 en7 0 := ⟨_, _, _, _, _, _, _, _, _, _, _, _, _, _, _, _, _, _, _, _, _, _, _, _, _, _, hO, hS, hx8, hH, hHr, hc6, hX, hXg, htl, hSo, hSn, hQ, hK, hP, hZ, hW, hU, hok, (fun w => by omega)⟩
    suffices lp25 : ∀ (fu25 : Nat) (d p : Nat) (T9 mo9 od9 ql9 : Nat) (q9 : Nat → Int32) (ln9 : Nat → Nat) (fl9 : Nat → Nat → Int32) (us9 : Nat → Int32) (cm9 : Int32) (nu9 be9 en9 : Nat) (M9 : mM), tl + 1 - p < fu25 → d ≤ p → p ≤ tl → coS g tl 80 0 (T, mo, od, ql, q, ln, fl, us) 0 = coS g tl (80 - d) p (T9, mo9, od9, ql9, q9, ln9, fl9, us9) d → (p < tl → ffO g tl (81 - d) p = none) → nC M9 m (T9, mo9, od9, ql9, q9, ln9, fl9, us9) (min (c + 1) 6) (hPush (T, mo, od, ql, q, ln, fl, us) hs) tl g p cm9 nu9 be9 en9 0 → mZ TM M M9 → V X 0 0 25 [some (.ref m), some (.int (nI d)), some (.int (nI 1))] [] M9 from lp25 (tl + 2) 0 0 _ _ _ _ _ _ _ _ _ _ _ _ _ (by omega) (by omega) (Nat.zero_le _) rfl (fun _ => hyes) hn0 hF
    intro fu25
    induction fu25 with
    | zero => intro d p T9 mo9 od9 ql9 q9 ln9 fl9 us9 cm9 nu9 be9 en9 M9 hd0 hdp hp hco hff hn hF; omega
    | succ fu25 ih25 =>
      intro d p T9 mo9 od9 ql9 q9 ln9 fl9 us9 cm9 nu9 be9 en9 M9 hd0 hdp hp hco hff hn hF
      obtain ⟨sa, ha, xa, ra, la, qa, al, ka, rm, pa, fs, fe, za, wa, ua, S, H, xt, so, sn, Q, K, P, Z, W, U, hO, hS, hx, hH, hHr, hc6, hX, hXg, htl, hSo, hSn, hQ, hK, hP, hZ, hW, hU, hok, hk5⟩ := hn.get
      have hx8 := hx
      obtain ⟨hx0, hx1, hx2, hx3, hxq, hxt⟩ := hx
      have hT16 := hok.T16
      have hm4 := hok.m4
      have ho3 := hok.o3
      have hq24 := hok.q24
      refine s_iload_n C 26 dX7_carryOut_25 rfl rfl ?_
      refine s_if_eqN C 71 29 dX7_carryOut_26 (by decide) rfl (by omega) (fun z26 => ?_) (fun z26 => ?_)
      · skip
        omega
      · skip
        refine s_aload_n C 30 dX7_carryOut_29 rfl rfl ?_
        refine s_getf C 33 dX7_carryOut_30 rfl f_X7_123 hO rfl ?_
        refine s_aload_n C 34 dX7_carryOut_33 rfl rfl ?_
        refine s_getf C 37 dX7_carryOut_34 rfl f_X7_120 hO rfl ?_
        refine s_icmp_geN C 71 40 dX7_carryOut_37 (by decide) rfl (by omega) (by omega) (fun z37 => ?_) (fun z37 => ?_)
        · skip
          have hco9 : coS g tl 80 0 (T, mo, od, ql, q, ln, fl, us) 0 = ((T9, mo9, od9, ql9, q9, ln9, fl9, us9), d) := by rw [hco, show p = tl by omega]; exact coS_no cmO_end
          have hF8 : mZ TM M9 M9 := mZ.rf
          refine s_aload_n C 72 dX7_carryOut_71 rfl rfl ?_
          refine s_iconst C 73 (nI 0) dX7_carryOut_72 rfl (by decide) ?_
          refine s_putU C 76 dX7_carryOut_73 rfl p_X7_120 hO (by first | decide | omega) rfl rfl rfl (fs' := [.ref sa, .ref ha, .int (nI (min (c + 1) 6)), .ref xa, .int (nI 0), .ref ra, .ref la, .ref qa, .int (nI al), .ref ka, .int (nI rm), .ref pa, .int fs, .int fe, .ref za, .ref wa, .ref ua, .int (nI p), .int cm9, .int (nI nu9), .int (nI be9), .int (nI en9)]) rfl (fun M5 U6 => ?_)
          have hS := U6.o hO hS (by first | decide | omega)
          have hX := U6.o hO hX (by first | decide | omega)
          have hSo := U6.o hO hSo (by first | decide | omega)
          have hSn := U6.o hO hSn (by first | decide | omega)
          have hH := U6.o hO hH (by first | decide | omega)
          have hQ := U6.o hO hQ (by first | decide | omega)
          have hK := U6.o hO hK (by first | decide | omega)
          have hP := U6.o hO hP (by first | decide | omega)
          have hZ := U6.o hO hZ (by first | decide | omega)
          have hW := U6.o hO hW (by first | decide | omega)
          have hU := U6.o hO hU (by first | decide | omega)
          have hF8 := hF8.put U6 hO (by first | decide | (simp; done) | (simp; omega) | (simp [*]; done))
          have hO := U6.s
          refine s_iload_n C 77 dX7_carryOut_76 rfl rfl ?_
          exact s_iret C dX7_carryOut_77 Tr rfl ⟨by rw [if_pos hyes, hco9], by rw [if_pos hyes, if_pos hyes, if_pos hyes, if_pos hyes, hco9]; exact ⟨_, _, _, _, _, _, _, _, _, _, _, _, _, _, _, _, _, _, _, _, _, _, _, _, _, _, _, _, _, _, _, hO, hS, hx8, hH, hHr, hc6, hX, (fun k hk => absurd hk (Nat.not_lt_zero _)), (Nat.zero_le _), hSo, hSn, hQ, hK, hP, hZ, hW, hU, hok⟩, hF.tr hF8⟩
        · skip
          refine s_aload_n C 41 dX7_carryOut_40 rfl rfl ?_
          refine s_invV C 44 0 0 [] (mRv_of hO rfl) dX7_carryOut_41 rfl m_X7_197 (n_readsCommand hO hX hXg htl hp) rfl rfl rfl ⟨by decide, by decide⟩ (Nat.le_of_ble_eq_true rfl) (by omega) (by omega) ?_
          rintro _ M7 ⟨rfl, hx6, hFt⟩
          dsimp only [Option.toList, List.cons_append, List.nil_append]
          obtain ⟨cm6, nu6, be6, en6, hO6, hd6⟩ := hx6
          have hff1 := hff z37
          rw [show 81 - d = (80 - d) + 1 by omega] at hff1
          obtain ⟨hok1, -⟩ := ffO_none hff1
          obtain ⟨k, hcK, hcm, hv6, ht6⟩ := hd6 hok1
          subst hcm
          have hS := hFt.at hS (by decide)
          have hX := hFt.at hX (by decide)
          have hSo := hFt.at hSo (by decide)
          have hSn := hFt.at hSn (by decide)
          have hH := hFt.at hH (by decide)
          have hQ := hFt.at hQ (by decide)
          have hK := hFt.at hK (by decide)
          have hP := hFt.at hP (by decide)
          have hZ := hFt.at hZ (by decide)
          have hW := hFt.at hW (by decide)
          have hU := hFt.at hU (by decide)
          have hO := hO6
          have hF := hF.tr (hFt.mono (by decide))
          have hk7 := (cmP_le (g := g) (n := tl) hp).2.2 k hcK
          have hcb := cmV_lim hp hcK
          have hcA := cmA_le (g := g) (n := tl) hp
          have hcPl := cmP_le (g := g) (n := tl) hp
          have hob : obH k nu6 be6 en6 tl g := ⟨hk7, fun w => by rw [hv6 w]; exact hcb.1, fun w => by rw [hv6 (by omega)]; exact hcb.2.1 w, fun w => by rw [hv6 (by omega)]; exact hcb.2.2 w, fun w => by obtain ⟨e1, e2⟩ := ht6 w; rw [e1, e2]; exact cm_title hp hok1 hcK w⟩
          have hxx : obX (T9, mo9, od9, ql9, q9, ln9, fl9, us9) k nu6 be6 en6 g = obX (T9, mo9, od9, ql9, q9, ln9, fl9, us9) ((cmK g tl p).getD 7) (cmV g tl p) (cmP g tl p) (cmA g tl p) g := by rw [hcK]; exact obX_cv hv6 ht6
          refine s_pop C 45 dX7_carryOut_44 rfl rfl ?_
          refine s_aload_n C 46 dX7_carryOut_45 rfl rfl ?_
          refine s_bipush C 48 (nI 59) dX7_carryOut_46 rfl (by decide) ?_
          refine s_invV C 51 0 0 [] (mRv_of hO rfl) dX7_carryOut_48 rfl m_X7_131 (n_isNext hO hX hXg htl (v := nI 59) (by omega)) rfl rfl rfl ⟨by decide, by decide⟩ (Nat.le_of_ble_eq_true rfl) (by omega) (by omega) ?_
          rintro _ M8 ⟨rfl, hO5, hFn⟩
          dsimp only [Option.toList, List.cons_append, List.nil_append]
          have hS := hFn.at hS (by decide)
          have hX := hFn.at hX (by decide)
          have hSo := hFn.at hSo (by decide)
          have hSn := hFn.at hSn (by decide)
          have hH := hFn.at hH (by decide)
          have hQ := hFn.at hQ (by decide)
          have hK := hFn.at hK (by decide)
          have hP := hFn.at hP (by decide)
          have hZ := hFn.at hZ (by decide)
          have hW := hFn.at hW (by decide)
          have hU := hFn.at hU (by decide)
          have hO := hO5
          have hF := hF.tr (hFn.mono (by decide))
          obtain ⟨p2, hp2⟩ : ∃ p2, p2 = if tyA g tl (cmA g tl p) = nI 59 then cmA g tl p + 1 else cmA g tl p := ⟨_, rfl⟩
          rw [← hp2] at hO
          have hn2 : nC M8 m (T9, mo9, od9, ql9, q9, ln9, fl9, us9) (min (c + 1) 6) (hPush (T, mo, od, ql, q, ln, fl, us) hs) tl g p2 (nI (cmC k)) nu6 be6 en6 0 := ⟨_, _, _, _, _, _, _, _, _, _, _, _, _, _, _, _, _, _, _, _, _, _, _, _, _, _, hO, hS, hx8, hH, hHr, hc6, hX, hXg, htl, hSo, hSn, hQ, hK, hP, hZ, hW, hU, hok, (fun w => by omega)⟩
          refine s_pop C 52 dX7_carryOut_51 rfl rfl ?_
          refine s_aload_n C 53 dX7_carryOut_52 rfl rfl ?_
          refine s_invV C 56 0 0 [] (nC_rv hn2) dX7_carryOut_53 rfl m_X7_234 (nn_mayDo hn2 hob) rfl rfl rfl ⟨by decide, by decide⟩ (Nat.le_of_ble_eq_true rfl) (by omega) (by omega) ?_
          rintro _ M9 ⟨rfl, hn3, hFm⟩
          dsimp only [Option.toList, List.cons_append, List.nil_append]
          have hF3 := hF.tr hFm
          refine s_istore_n C 57 dX7_carryOut_56 rfl rfl rfl ?_
          dsimp only [List.set]
          refine s_iload_n C 58 dX7_carryOut_57 rfl rfl ?_
          refine s_if_eqB C 25 61 dX7_carryOut_58 (by decide) rfl (fun z58 => ?_) (fun z58 => ?_)
          · skip
            have hobn : obX (T9, mo9, od9, ql9, q9, ln9, fl9, us9) ((cmK g tl p).getD 7) (cmV g tl p) (cmP g tl p) (cmA g tl p) g = none := by rw [← hxx]; simpa using z58
            have hco9 : coS g tl 80 0 (T, mo, od, ql, q, ln, fl, us) 0 = ((T9, mo9, od9, ql9, q9, ln9, fl9, us9), d) := by rw [hco]; exact coS_none hobn
            have hF := hF3
            obtain ⟨sa, ha, xa, ra, la, qa, al, ka, rm, pa, fs, fe, za, wa, ua, S, H, xt, so, sn, Q, K, P, Z, W, U, hO, hS, hx, hH, hHr, hc6, hX, hXg, htl, hSo, hSn, hQ, hK, hP, hZ, hW, hU, hok, hk5⟩ := hn3.get
            have hx8 := hx
            obtain ⟨hx0, hx1, hx2, hx3, hxq, hxt⟩ := hx
            have hT16 := hok.T16
            have hm4 := hok.m4
            have ho3 := hok.o3
            have hq24 := hok.q24
            refine s_iload_n C 26 dX7_carryOut_25 rfl rfl ?_
            refine s_if_eqB C 71 29 dX7_carryOut_26 (by decide) rfl (fun z26 => ?_) (fun z26 => ?_)
            · skip
              have hF8 : mZ TM M9 M9 := mZ.rf
              refine s_aload_n C 72 dX7_carryOut_71 rfl rfl ?_
              refine s_iconst C 73 (nI 0) dX7_carryOut_72 rfl (by decide) ?_
              refine s_putU C 76 dX7_carryOut_73 rfl p_X7_120 hO (by first | decide | omega) rfl rfl rfl (fs' := [.ref sa, .ref ha, .int (nI (min (c + 1) 6)), .ref xa, .int (nI 0), .ref ra, .ref la, .ref qa, .int (nI al), .ref ka, .int (nI rm), .ref pa, .int fs, .int fe, .ref za, .ref wa, .ref ua, .int (nI p2), .int (nI (cmC k)), .int (nI nu6), .int (nI be6), .int (nI en6)]) rfl (fun M10 U11 => ?_)
              have hS := U11.o hO hS (by first | decide | omega)
              have hX := U11.o hO hX (by first | decide | omega)
              have hSo := U11.o hO hSo (by first | decide | omega)
              have hSn := U11.o hO hSn (by first | decide | omega)
              have hH := U11.o hO hH (by first | decide | omega)
              have hQ := U11.o hO hQ (by first | decide | omega)
              have hK := U11.o hO hK (by first | decide | omega)
              have hP := U11.o hO hP (by first | decide | omega)
              have hZ := U11.o hO hZ (by first | decide | omega)
              have hW := U11.o hO hW (by first | decide | omega)
              have hU := U11.o hO hU (by first | decide | omega)
              have hF8 := hF8.put U11 hO (by first | decide | (simp; done) | (simp; omega) | (simp [*]; done))
              have hO := U11.s
              refine s_iload_n C 77 dX7_carryOut_76 rfl rfl ?_
              exact s_iret C dX7_carryOut_77 Tr rfl ⟨by rw [if_pos hyes, hco9], by rw [if_pos hyes, if_pos hyes, if_pos hyes, if_pos hyes, hco9]; exact ⟨_, _, _, _, _, _, _, _, _, _, _, _, _, _, _, _, _, _, _, _, _, _, _, _, _, _, _, _, _, _, _, hO, hS, hx8, hH, hHr, hc6, hX, (fun k hk => absurd hk (Nat.not_lt_zero _)), (Nat.zero_le _), hSo, hSn, hQ, hK, hP, hZ, hW, hU, hok⟩, hF.tr hF8⟩
            · skip
              rw [z58] at z26; cases z26
          · skip
            rw [z58]
            refine s_aload_n C 62 dX7_carryOut_61 rfl rfl ?_
            refine s_invV C 65 0 0 [] (nC_rv hn3) dX7_carryOut_62 rfl m_X7_237 (nn_does hn3 hob z58) rfl rfl rfl ⟨by decide, by decide⟩ (Nat.le_of_ble_eq_true rfl) (by omega) (by omega) ?_
            rintro _ M12 ⟨rfl, hn4, hFd⟩
            dsimp only [Option.toList, List.cons_append, List.nil_append]
            rw [hxx] at z58 hn4
            obtain ⟨y9, hoby⟩ := Option.isSome_iff_exists.mp z58
            rw [hoby] at hn4
            obtain ⟨hq1, hq2, hq3, hq4⟩ := co_next hdp z37 htl (hff z37) hoby hp2
            obtain ⟨T8, mo8, od8, ql8, q8, ln8, fl8, us8⟩ := y9
            have hF4 := hF3.tr hFd
            refine s_iinc C 68 (nI (d + 1)) dX7_carryOut_65 rfl rfl (by rw [← nI_add]; rfl) rfl ?_
            dsimp only [List.set]
            refine s_goto C 25 dX7_carryOut_68 (by decide) ?_
            exact ih25 (d + 1) _ _ _ _ _ _ _ _ _ _ _ _ _ _ (by omega) (by omega) hq1 (by rw [hco]; exact hq3) hq4 hn4 hF4
  · skip
    have hno : ¬ ffO g tl 81 0 = none := fun w => z6 (by rw [w]; rfl)
    refine s_bipush C 11 (-5) dX7_carryOut_9 rfl (by decide) ?_
    exact s_iret C dX7_carryOut_11 Tr rfl ⟨by rw [if_neg hno], by rw [if_neg hno, if_neg hno, if_neg hno, if_neg hno]; exact ⟨_, _, _, _, _, _, _, _, _, _, _, _, _, _, _, _, _, _, _, _, _, _, _, _, _, _, _, _, _, _, _, hO, hS, hx8, hH, hHr, hc6, hX, hXg, htl, hSo, hSn, hQ, hK, hP, hZ, hW, hU, hok⟩, (hFe.mono (by decide))⟩
