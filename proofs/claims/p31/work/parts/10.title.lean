set_option maxRecDepth 100000 in
set_option maxHeartbeats 4000000 in
/-- Title.sameLength -/
theorem c_sameLength {G : mG} {M : mM} {a b ta tb n m i j k : Nat} {f g : Nat → Int32} (hA : M a = some (ta, .inr (1, n, .inl f))) (hB : M b = some (tb, .inr (1, m, .inl g))) (hn : n < 100000) (hm : m < 100000) (hi : i < 100000) (hj : j < 100000) (hk : k < 100000) : CC G iX5_sameLength 0 0 [.ref a, .int (nI i), .ref b, .int (nI j), .int (nI k)] M (fun r M1 => r = some (.int (nI (sl f g n m i j k))) ∧ M = M1) := by
  refine CC.of rfl (Nat.le_of_ble_eq_true rfl) rfl (fun X C Tr => ?_)
  show V X 0 0 0 [some (.ref a), some (.int (nI i)), some (.ref b), some (.int (nI j)), some (.int (nI k)), none] [] M
  refine s_iconst C 1 (nI 0) dX5_sameLength_0 rfl (by decide) ?_
  refine s_istore C 3 dX5_sameLength_1 rfl rfl rfl ?_
  dsimp only [List.set]
  suffices lp3 : ∀ (fu3 : Nat) (s : Nat), k - s < fu3 → s ≤ k → sl f g n m i j k = s + sl f g n m (i + s) (j + s) (k - s) → V X 0 0 3 [some (.ref a), some (.int (nI i)), some (.ref b), some (.int (nI j)), some (.int (nI k)), some (.int (nI s))] [] M from lp3 (k + 1) 0 (by omega) (by omega) (by rw [Nat.zero_add, Nat.add_zero, Nat.add_zero, Nat.sub_zero])
  intro fu3
  induction fu3 with
  | zero => intro s hs0 hsk hs; omega
  | succ fu3 ih3 =>
    intro s hs0 hsk hs
    refine s_iload C 5 dX5_sameLength_3 rfl rfl ?_
    refine s_iload C 7 dX5_sameLength_5 rfl rfl ?_
    refine s_icmp_geN C 49 10 dX5_sameLength_7 (by decide) rfl (by omega) (by omega) (fun z7 => ?_) (fun z7 => ?_)
    · skip
      have hz : sl f g n m (i + s) (j + s) (k - s) = 0 := sl_stop (by omega)
      refine s_iload C 51 dX5_sameLength_49 rfl rfl ?_
      exact s_iret C dX5_sameLength_51 Tr rfl ⟨by rw [hs, hz, Nat.add_zero], rfl⟩
    · skip
      refine s_iload_n C 11 dX5_sameLength_10 rfl rfl ?_
      refine s_iload C 13 dX5_sameLength_11 rfl rfl ?_
      refine s_iaddN C 14 dX5_sameLength_13 rfl ?_
      refine s_aload_n C 15 dX5_sameLength_14 rfl rfl ?_
      refine s_alen C 16 dX5_sameLength_15 rfl hA (by decide) ?_
      refine s_icmp_geN C 49 19 dX5_sameLength_16 (by decide) rfl (by omega) (by omega) (fun z16 => ?_) (fun z16 => ?_)
      · skip
        have hz : sl f g n m (i + s) (j + s) (k - s) = 0 := sl_stop (by omega)
        refine s_iload C 51 dX5_sameLength_49 rfl rfl ?_
        exact s_iret C dX5_sameLength_51 Tr rfl ⟨by rw [hs, hz, Nat.add_zero], rfl⟩
      · skip
        refine s_iload_n C 20 dX5_sameLength_19 rfl rfl ?_
        refine s_iload C 22 dX5_sameLength_20 rfl rfl ?_
        refine s_iaddN C 23 dX5_sameLength_22 rfl ?_
        refine s_aload_n C 24 dX5_sameLength_23 rfl rfl ?_
        refine s_alen C 25 dX5_sameLength_24 rfl hB (by decide) ?_
        refine s_icmp_geN C 49 28 dX5_sameLength_25 (by decide) rfl (by omega) (by omega) (fun z25 => ?_) (fun z25 => ?_)
        · skip
          have hz : sl f g n m (i + s) (j + s) (k - s) = 0 := sl_stop (by omega)
          refine s_iload C 51 dX5_sameLength_49 rfl rfl ?_
          exact s_iret C dX5_sameLength_51 Tr rfl ⟨by rw [hs, hz, Nat.add_zero], rfl⟩
        · skip
          refine s_aload_n C 29 dX5_sameLength_28 rfl rfl ?_
          refine s_iload_n C 30 dX5_sameLength_29 rfl rfl ?_
          refine s_iload C 32 dX5_sameLength_30 rfl rfl ?_
          refine s_iaddN C 33 dX5_sameLength_32 rfl ?_
          refine s_cald C 34 dX5_sameLength_33 rfl hA (by omega) (by omega) ?_
          refine s_aload_n C 35 dX5_sameLength_34 rfl rfl ?_
          refine s_iload_n C 36 dX5_sameLength_35 rfl rfl ?_
          refine s_iload C 38 dX5_sameLength_36 rfl rfl ?_
          refine s_iaddN C 39 dX5_sameLength_38 rfl ?_
          refine s_cald C 40 dX5_sameLength_39 rfl hB (by omega) (by omega) ?_
          refine s_icmp_ne C 49 43 dX5_sameLength_40 (by decide) rfl (fun z40 => ?_) (fun z40 => ?_)
          · skip
            have hz : sl f g n m (i + s) (j + s) (k - s) = 0 := sl_stop (Or.inr (Or.inr (Or.inr z40)))
            refine s_iload C 51 dX5_sameLength_49 rfl rfl ?_
            exact s_iret C dX5_sameLength_51 Tr rfl ⟨by rw [hs, hz, Nat.add_zero], rfl⟩
          · skip
            refine s_iinc C 46 (nI (s + 1)) dX5_sameLength_43 rfl rfl (by rw [← nI_add]; rfl) rfl ?_
            dsimp only [List.set]
            refine s_goto C 3 dX5_sameLength_46 (by decide) ?_
            exact ih3 (s + 1) (by omega) (by omega) (by rw [hs, sl_step (by omega) (by omega) (by omega) z40, show i + s + 1 = i + (s + 1) by omega, show j + s + 1 = j + (s + 1) by omega, show k - s - 1 = k - (s + 1) by omega]; omega)

set_option maxRecDepth 100000 in
set_option maxHeartbeats 4000000 in
/-- Title.run -/
theorem c_run {G : mG} {M : mM} {a la ia n m : Nat} {f ini : Nat → Int32} {u : Int32} {mo : Nat} (hO : M a = some (1, .inl (6, [.ref la, .ref ia, .int u]))) (hL : M la = some (1, .inr (1, n, .inl f))) (hI : M ia = some (1, .inr (1, m, .inl ini))) (hm : mo < 100) : CC G iX5_run 0 0 [.ref a, .int (nI mo)] M (fun r M1 => r = some (.ref (if mo = 3 then ia else la)) ∧ M = M1) := by
  refine CC.of rfl (Nat.le_of_ble_eq_true rfl) rfl (fun X C Tr => ?_)
  show V X 0 0 0 [some (.ref a), some (.int (nI mo))] [] M
  refine s_iload_n C 1 dX5_run_0 rfl rfl ?_
  refine s_iconst C 2 (nI 3) dX5_run_1 rfl (by decide) ?_
  refine s_icmp_neN C 12 5 dX5_run_2 (by decide) rfl (by omega) (by omega) (fun z2 => ?_) (fun z2 => ?_)
  · skip
    refine s_aload_n C 13 dX5_run_12 rfl rfl ?_
    refine s_getf C 16 dX5_run_13 rfl f_X5_9 hO rfl ?_
    exact s_aret C dX5_run_16 Tr rfl (Or.inr ⟨_, rfl⟩) ⟨by simp [z2], rfl⟩
  · skip
    refine s_aload_n C 6 dX5_run_5 rfl rfl ?_
    refine s_getf C 9 dX5_run_6 rfl f_X5_15 hO rfl ?_
    refine s_goto C 16 dX5_run_9 (by decide) ?_
    exact s_aret C dX5_run_16 Tr rfl (Or.inr ⟨_, rfl⟩) ⟨by simp [z2], rfl⟩

set_option maxRecDepth 100000 in
set_option maxHeartbeats 4000000 in
/-- Title.startsPiece -/
theorem c_startsPiece {G : mG} {M : mM} {a la ia n m : Nat} {f ini : Nat → Int32} {u : Int32} {mo p : Nat} (hO : M a = some (1, .inl (6, [.ref la, .ref ia, .int u]))) (hL : M la = some (1, .inr (1, n, .inl f))) (hI : M ia = some (1, .inr (1, m, .inl ini))) (hn : n < 100000) (hm : m < 100000) (hmo : mo < 100) (hp : p < 100000) : CC G iX5_startsPiece 0 0 [.ref a, .int (nI mo), .int (nI p)] M (fun r M1 => r = some (.int (mB (spB mo n m f p))) ∧ M = M1) := by
  refine CC.of rfl (Nat.le_of_ble_eq_true rfl) rfl (fun X C Tr => ?_)
  show V X 0 0 0 [some (.ref a), some (.int (nI mo)), some (.int (nI p))] [] M
  refine s_iload_n C 1 dX5_startsPiece_0 rfl rfl ?_
  refine s_iconst C 2 (nI 3) dX5_startsPiece_1 rfl (by decide) ?_
  refine s_icmp_neN C 24 5 dX5_startsPiece_2 (by decide) rfl (by omega) (by omega) (fun z2 => ?_) (fun z2 => ?_)
  · skip
    refine s_iload_n C 25 dX5_startsPiece_24 rfl rfl ?_
    refine s_if_ltN C 28 (t := 37) dX5_startsPiece_25 (by decide) rfl (by omega) ?_
    refine s_iload_n C 29 dX5_startsPiece_28 rfl rfl ?_
    refine s_aload_n C 30 dX5_startsPiece_29 rfl rfl ?_
    refine s_getf C 33 dX5_startsPiece_30 rfl f_X5_9 hO rfl ?_
    refine s_alen C 34 dX5_startsPiece_33 rfl hL (by decide) ?_
    refine s_icmp_ltN C 39 37 dX5_startsPiece_34 (by decide) rfl (by omega) (by omega) (fun z34 => ?_) (fun z34 => ?_)
    · skip
      refine s_iload_n C 40 dX5_startsPiece_39 rfl rfl ?_
      by_cases w40_1 : mo = 1
      · skip
        refine s_look C 68 dX5_startsPiece_40 (by decide) (off := 28) (by rw [w40_1]; rfl) (by decide) ?_
        refine s_iload_n C 69 dX5_startsPiece_68 rfl rfl ?_
        refine s_if_neN C 76 72 dX5_startsPiece_69 (by decide) rfl (by omega) (fun z69 => ?_) (fun z69 => ?_)
        · skip
          refine s_iconst C 77 (nI 0) dX5_startsPiece_76 rfl (by decide) ?_
          exact s_zret C dX5_startsPiece_77 Tr rfl (by decide) ⟨rF (by simp [spB, *] <;> omega), rfl⟩
        · skip
          refine s_iconst C 73 (nI 1) dX5_startsPiece_72 rfl (by decide) ?_
          refine s_goto C 77 dX5_startsPiece_73 (by decide) ?_
          exact s_zret C dX5_startsPiece_77 Tr rfl (by decide) ⟨rT (by simp [spB, *] <;> omega), rfl⟩
      by_cases w40_2 : mo = 2
      · skip
        refine s_look C 78 dX5_startsPiece_40 (by decide) (off := 38) (by rw [w40_2]; rfl) (by decide) ?_
        refine s_iload_n C 79 dX5_startsPiece_78 rfl rfl ?_
        refine s_if_eqN C 95 82 dX5_startsPiece_79 (by decide) rfl (by omega) (fun z79 => ?_) (fun z79 => ?_)
        · skip
          refine s_iconst C 96 (nI 1) dX5_startsPiece_95 rfl (by decide) ?_
          refine s_goto C 100 dX5_startsPiece_96 (by decide) ?_
          exact s_zret C dX5_startsPiece_100 Tr rfl (by decide) ⟨rT (by simp [spB, *] <;> omega), rfl⟩
        · skip
          refine s_aload_n C 83 dX5_startsPiece_82 rfl rfl ?_
          refine s_getf C 86 dX5_startsPiece_83 rfl f_X5_9 hO rfl ?_
          refine s_iload_n C 87 dX5_startsPiece_86 rfl rfl ?_
          refine s_iconst C 88 (nI 1) dX5_startsPiece_87 rfl (by decide) ?_
          refine s_isubN C 89 dX5_startsPiece_88 rfl (by omega) ?_
          refine s_cald C 90 dX5_startsPiece_89 rfl hL (by omega) (by omega) ?_
          refine s_bipush C 92 (nI 32) dX5_startsPiece_90 rfl (by decide) ?_
          refine s_icmp_ne C 99 95 dX5_startsPiece_92 (by decide) rfl (fun z92 => ?_) (fun z92 => ?_)
          · skip
            refine s_iconst C 100 (nI 0) dX5_startsPiece_99 rfl (by decide) ?_
            exact s_zret C dX5_startsPiece_100 Tr rfl (by decide) ⟨rF (by simp [spB, *] <;> omega), rfl⟩
          · skip
            refine s_iconst C 96 (nI 1) dX5_startsPiece_95 rfl (by decide) ?_
            refine s_goto C 100 dX5_startsPiece_96 (by decide) ?_
            exact s_zret C dX5_startsPiece_100 Tr rfl (by decide) ⟨rT (by simp [spB, *] <;> omega), rfl⟩
      refine s_look C 101 dX5_startsPiece_40 (by decide) (off := 61) (by show Op.lookupswitch.offset (_ :: _) _ _ = _; rw [lv_osw (k := nI 1) (fun h => w40_1 ((nI_eq (by omega) (by omega)).mp h)) (by decide), lv_osw (k := nI 2) (fun h => w40_2 ((nI_eq (by omega) (by omega)).mp h)) (by decide)]; rfl) (by decide) ?_
      refine s_aload_n C 102 dX5_startsPiece_101 rfl rfl ?_
      refine s_getf C 105 dX5_startsPiece_102 rfl f_X5_9 hO rfl ?_
      refine s_iload_n C 106 dX5_startsPiece_105 rfl rfl ?_
      refine s_cald C 107 dX5_startsPiece_106 rfl hL (by omega) (by omega) ?_
      refine s_bipush C 109 (nI 32) dX5_startsPiece_107 rfl (by decide) ?_
      refine s_icmp_eq C 116 112 dX5_startsPiece_109 (by decide) rfl (fun z109 => ?_) (fun z109 => ?_)
      · skip
        refine s_iconst C 117 (nI 0) dX5_startsPiece_116 rfl (by decide) ?_
        exact s_zret C dX5_startsPiece_117 Tr rfl (by decide) ⟨rF (by simp [spB, *] <;> omega), rfl⟩
      · skip
        refine s_iconst C 113 (nI 1) dX5_startsPiece_112 rfl (by decide) ?_
        refine s_goto C 117 dX5_startsPiece_113 (by decide) ?_
        exact s_zret C dX5_startsPiece_117 Tr rfl (by decide) ⟨rT (by simp [spB, *] <;> omega), rfl⟩
    · skip
      refine s_iconst C 38 (nI 0) dX5_startsPiece_37 rfl (by decide) ?_
      exact s_zret C dX5_startsPiece_38 Tr rfl (by decide) ⟨rF (by simp [spB, *] <;> omega), rfl⟩
  · skip
    refine s_iload_n C 6 dX5_startsPiece_5 rfl rfl ?_
    refine s_if_ltN C 9 (t := 22) dX5_startsPiece_6 (by decide) rfl (by omega) ?_
    refine s_iload_n C 10 dX5_startsPiece_9 rfl rfl ?_
    refine s_aload_n C 11 dX5_startsPiece_10 rfl rfl ?_
    refine s_getf C 14 dX5_startsPiece_11 rfl f_X5_15 hO rfl ?_
    refine s_alen C 15 dX5_startsPiece_14 rfl hI (by decide) ?_
    refine s_icmp_geN C 22 18 dX5_startsPiece_15 (by decide) rfl (by omega) (by omega) (fun z15 => ?_) (fun z15 => ?_)
    · skip
      refine s_iconst C 23 (nI 0) dX5_startsPiece_22 rfl (by decide) ?_
      exact s_zret C dX5_startsPiece_23 Tr rfl (by decide) ⟨rF (by simp [spB, *] <;> omega), rfl⟩
    · skip
      refine s_iconst C 19 (nI 1) dX5_startsPiece_18 rfl (by decide) ?_
      refine s_goto C 23 dX5_startsPiece_19 (by decide) ?_
      exact s_zret C dX5_startsPiece_23 Tr rfl (by decide) ⟨rT (by simp [spB, *] <;> omega), rfl⟩

set_option maxRecDepth 100000 in
set_option maxHeartbeats 4000000 in
/-- Title.placeOf -/
theorem c_placeOf {G : mG} {M : mM} {a la ia n m : Nat} {f ini : Nat → Int32} {u : Int32} {b tq qn len mo : Nat} {q : Nat → Int32} (hO : M a = some (1, .inl (6, [.ref la, .ref ia, .int u]))) (hL : M la = some (1, .inr (1, n, .inl f))) (hI : M ia = some (1, .inr (1, m, .inl ini))) (hQ : M b = some (tq, .inr (1, qn, .inl q))) (hn : n < 100000) (hm : m < 100000) (hqn : qn < 100000) (hmo : mo < 100) (hlen : len ≤ qn) : CC G iX5_placeOf 0 0 [.ref a, .ref b, .int (nI len), .int (nI mo)] M (fun r M1 => r = some (.int (oI (plc mo n m f ini q len))) ∧ M = M1) := by
  refine CC.of rfl (Nat.le_of_ble_eq_true rfl) rfl (fun X C Tr => ?_)
  show V X 0 0 0 [some (.ref a), some (.ref b), some (.int (nI len)), some (.int (nI mo)), none, none] [] M
  refine s_aload_n C 1 dX5_placeOf_0 rfl rfl ?_
  refine s_iload_n C 2 dX5_placeOf_1 rfl rfl ?_
  refine s_invV C 5 0 0 [] (mRv_of hO rfl) dX5_placeOf_2 rfl m_X5_33 (c_run hO hL hI hmo) rfl rfl rfl ⟨by decide, by decide⟩ (Nat.le_of_ble_eq_true rfl) (by omega) (by omega) ?_
  rintro _ M1 ⟨rfl, rfl⟩
  dsimp only [Option.toList, List.cons_append, List.nil_append]
  have hR : M (if mo = 3 then ia else la) = some (1, .inr (1, rN mo n m, .inl (rG mo f ini))) := by unfold rN rG; split <;> assumption
  have hN : rN mo n m < 100000 := by unfold rN; split <;> assumption
  refine s_astore C 7 dX5_placeOf_5 rfl rfl rfl ?_
  dsimp only [List.set]
  refine s_iconst C 8 (nI 0) dX5_placeOf_7 rfl (by decide) ?_
  refine s_istore C 10 dX5_placeOf_8 rfl rfl rfl ?_
  dsimp only [List.set]
  suffices lp10 : ∀ (fu10 : Nat) (p : Nat), rN mo n m + 2 - p < fu10 → p ≤ rN mo n m + 1 → plc mo n m f ini q len = fnd (fun p => spB mo n m f p && mtB q (rG mo f ini) len p) p (rN mo n m + 1 - len - p) → V X 0 0 10 [some (.ref a), some (.ref b), some (.int (nI len)), some (.int (nI mo)), some (.ref (if mo = 3 then ia else la)), some (.int (nI p))] [] M from lp10 (rN mo n m + 3) 0 (by omega) (by omega) rfl
  intro fu10
  induction fu10 with
  | zero => intro p hm0 hp2 hp; omega
  | succ fu10 ih10 =>
    intro p hm0 hp2 hp
    refine s_iload C 12 dX5_placeOf_10 rfl rfl ?_
    refine s_iload_n C 13 dX5_placeOf_12 rfl rfl ?_
    refine s_iaddN C 14 dX5_placeOf_13 rfl ?_
    refine s_aload C 16 dX5_placeOf_14 rfl rfl ?_
    refine s_alen C 17 dX5_placeOf_16 rfl hR (by decide) ?_
    refine s_icmp_gtN C 53 20 dX5_placeOf_17 (by decide) rfl (by omega) (by omega) (fun z17 => ?_) (fun z17 => ?_)
    · skip
      have hz : plc mo n m f ini q len = none := by rw [hp, show rN mo n m + 1 - len - p = 0 by omega]; rfl
      refine s_bipush C 55 (-6) dX5_placeOf_53 rfl (by decide) ?_
      exact s_iret C dX5_placeOf_55 Tr rfl ⟨by rw [hz]; rfl, rfl⟩
    · skip
      refine s_aload_n C 21 dX5_placeOf_20 rfl rfl ?_
      refine s_iload_n C 22 dX5_placeOf_21 rfl rfl ?_
      refine s_iload C 24 dX5_placeOf_22 rfl rfl ?_
      refine s_invV C 27 0 0 [] (mRv_of hO rfl) dX5_placeOf_24 rfl m_X5_37 (c_startsPiece (p := p) hO hL hI hn hm hmo (by omega)) rfl rfl rfl ⟨by decide, by decide⟩ (Nat.le_of_ble_eq_true rfl) (by omega) (by omega) ?_
      rintro _ M2 ⟨rfl, rfl⟩
      dsimp only [Option.toList, List.cons_append, List.nil_append]
      refine s_if_eqB C 47 30 dX5_placeOf_27 (by decide) rfl (fun z27 => ?_) (fun z27 => ?_)
      · skip
        have hz : (fun p => spB mo n m f p && mtB q (rG mo f ini) len p) p = false := by simp [z27]
        refine s_iinc C 50 (nI (p + 1)) dX5_placeOf_47 rfl rfl (by rw [← nI_add]; rfl) rfl ?_
        dsimp only [List.set]
        refine s_goto C 10 dX5_placeOf_50 (by decide) ?_
        exact ih10 (p + 1) (by omega) (by omega) (by rw [hp, fnd_step (by omega) hz]; rfl)
      · skip
        refine s_aload_n C 31 dX5_placeOf_30 rfl rfl ?_
        refine s_iconst C 32 (nI 0) dX5_placeOf_31 rfl (by decide) ?_
        refine s_aload C 34 dX5_placeOf_32 rfl rfl ?_
        refine s_iload C 36 dX5_placeOf_34 rfl rfl ?_
        refine s_iload_n C 37 dX5_placeOf_36 rfl rfl ?_
        have hsl := sl_le (f := q) (g := rG mo f ini) (n := qn) (m := rN mo n m) len 0 p
        refine s_invS C 40 0 0 [] dX5_placeOf_37 rfl m_X5_41 (c_sameLength hQ hR hqn hN (by omega) (by omega) (by omega)) rfl rfl rfl ⟨by decide, by decide⟩ (Nat.le_of_ble_eq_true rfl) (by omega) (by omega) ?_
        rintro _ M3 ⟨rfl, rfl⟩
        dsimp only [Option.toList, List.cons_append, List.nil_append]
        refine s_iload_n C 41 dX5_placeOf_40 rfl rfl ?_
        refine s_icmp_neN C 47 44 dX5_placeOf_41 (by decide) rfl (by omega) (by omega) (fun z41 => ?_) (fun z41 => ?_)
        · skip
          have hz : (fun p => spB mo n m f p && mtB q (rG mo f ini) len p) p = false := by have := (not_congr (sl_full (q := q) (r := rG mo f ini) (a := qn) (b := rN mo n m) (p := p) (len := len) hlen (by omega))).mp z41; simp [this]
          refine s_iinc C 50 (nI (p + 1)) dX5_placeOf_47 rfl rfl (by rw [← nI_add]; rfl) rfl ?_
          dsimp only [List.set]
          refine s_goto C 10 dX5_placeOf_50 (by decide) ?_
          exact ih10 (p + 1) (by omega) (by omega) (by rw [hp, fnd_step (by omega) hz]; rfl)
        · skip
          have hz : plc mo n m f ini q len = some p := by rw [hp]; exact fnd_hit (by omega) (by have := (sl_full (q := q) (r := rG mo f ini) (a := qn) (b := rN mo n m) (p := p) (len := len) hlen (by omega)).mp z41; simp [this, z27])
          refine s_iload C 46 dX5_placeOf_44 rfl rfl ?_
          exact s_iret C dX5_placeOf_46 Tr rfl ⟨by rw [hz]; rfl, rfl⟩

set_option maxRecDepth 100000 in
set_option maxHeartbeats 4000000 in
/-- Title.commonRun -/
theorem c_commonRun {G : mG} {M : mM} {a la ia n m b lb ib n2 m2 : Nat} {f ini g ini2 : Nat → Int32} {u u2 : Int32} (hO : M a = some (1, .inl (6, [.ref la, .ref ia, .int u]))) (hL : M la = some (1, .inr (1, n, .inl f))) (hI : M ia = some (1, .inr (1, m, .inl ini))) (hO2 : M b = some (1, .inl (6, [.ref lb, .ref ib, .int u2]))) (hL2 : M lb = some (1, .inr (1, n2, .inl g))) (hI2 : M ib = some (1, .inr (1, m2, .inl ini2))) (hn : n < 100000) (hn2 : n2 < 100000) : CC G iX5_commonRun 0 0 [.ref a, .ref b] M (fun r M1 => r = some (.int (nI (cmI f g n n2 n))) ∧ M = M1) := by
  refine CC.of rfl (Nat.le_of_ble_eq_true rfl) rfl (fun X C Tr => ?_)
  show V X 0 0 0 [some (.ref a), some (.ref b), none, none, none] [] M
  refine s_iconst C 1 (nI 0) dX5_commonRun_0 rfl (by decide) ?_
  refine s_istore_n C 2 dX5_commonRun_1 rfl rfl rfl ?_
  dsimp only [List.set]
  refine s_iconst C 3 (nI 0) dX5_commonRun_2 rfl (by decide) ?_
  refine s_istore_n C 4 dX5_commonRun_3 rfl rfl rfl ?_
  dsimp only [List.set]
  suffices lp4 : ∀ (fu4 : Nat) (i c : Nat), n - i < fu4 → i ≤ n → c = cmI f g n n2 i → V X 0 0 4 [some (.ref a), some (.ref b), some (.int (nI c)), some (.int (nI i)), none] [] M from lp4 (n + 1) 0 0 (by omega) (by omega) rfl
  intro fu4
  induction fu4 with
  | zero => intro i c hi0 hi hc; omega
  | succ fu4 ih4 =>
    intro i c hi0 hi hc
    refine s_iload_n C 5 dX5_commonRun_4 rfl rfl ?_
    refine s_aload_n C 6 dX5_commonRun_5 rfl rfl ?_
    refine s_getf C 9 dX5_commonRun_6 rfl f_X5_9 hO rfl ?_
    refine s_alen C 10 dX5_commonRun_9 rfl hL (by decide) ?_
    refine s_icmp_geN C 59 13 dX5_commonRun_10 (by decide) rfl (by omega) (by omega) (fun z10 => ?_) (fun z10 => ?_)
    · skip
      refine s_iload_n C 60 dX5_commonRun_59 rfl rfl ?_
      exact s_iret C dX5_commonRun_60 Tr rfl ⟨by rw [hc, show i = n by omega], rfl⟩
    · skip
      refine s_iconst C 14 (nI 0) dX5_commonRun_13 rfl (by decide) ?_
      refine s_istore C 16 dX5_commonRun_14 rfl rfl rfl ?_
      dsimp only [List.set]
      suffices lp16 : ∀ (fu16 : Nat) (j c2 : Nat), n2 - j < fu16 → j ≤ n2 → c2 = max (cmI f g n n2 i) (cmJ f g n n2 i j) → V X 0 0 16 [some (.ref a), some (.ref b), some (.int (nI c2)), some (.int (nI i)), some (.int (nI j))] [] M from lp16 (n2 + 1) 0 c (by omega) (by omega) (by rw [hc]; exact (Nat.max_eq_left (Nat.zero_le _)).symm)
      intro fu16
      induction fu16 with
      | zero => intro j c2 hj0 hj hc2; omega
      | succ fu16 ih16 =>
        intro j c2 hj0 hj hc2
        have h1 := cmI_le (f := f) (g := g) (n := n) (m := n2) i
        have h2 := cmJ_le (f := f) (g := g) (n := n) (m := n2) (i := i) j
        have hcb : c2 ≤ 24 := by omega
        refine s_iload C 18 dX5_commonRun_16 rfl rfl ?_
        refine s_aload_n C 19 dX5_commonRun_18 rfl rfl ?_
        refine s_getf C 22 dX5_commonRun_19 rfl f_X5_9 hO2 rfl ?_
        refine s_alen C 23 dX5_commonRun_22 rfl hL2 (by decide) ?_
        refine s_icmp_geN C 53 26 dX5_commonRun_23 (by decide) rfl (by omega) (by omega) (fun z23 => ?_) (fun z23 => ?_)
        · skip
          refine s_iinc C 56 (nI (i + 1)) dX5_commonRun_53 rfl rfl (by rw [← nI_add]; rfl) rfl ?_
          dsimp only [List.set]
          refine s_goto C 4 dX5_commonRun_56 (by decide) ?_
          refine V.drop 4 ?_
          dsimp only [List.set]
          exact ih4 (i + 1) _ (by omega) (by omega) (by rw [hc2, show j = n2 by omega]; rfl)
        · skip
          refine s_iload_n C 27 dX5_commonRun_26 rfl rfl ?_
          refine s_aload_n C 28 dX5_commonRun_27 rfl rfl ?_
          refine s_getf C 31 dX5_commonRun_28 rfl f_X5_9 hO rfl ?_
          refine s_iload_n C 32 dX5_commonRun_31 rfl rfl ?_
          refine s_aload_n C 33 dX5_commonRun_32 rfl rfl ?_
          refine s_getf C 36 dX5_commonRun_33 rfl f_X5_9 hO2 rfl ?_
          refine s_iload C 38 dX5_commonRun_36 rfl rfl ?_
          refine s_bipush C 40 (nI 24) dX5_commonRun_38 rfl (by decide) ?_
          have hsl := sl_le (f := f) (g := g) (n := n) (m := n2) 24 i j
          refine s_invS C 43 0 0 [.int (nI c2)] dX5_commonRun_40 rfl m_X5_41 (c_sameLength hL hL2 hn hn2 (by omega) (by omega) (by omega)) rfl rfl rfl ⟨by decide, by decide⟩ (Nat.le_of_ble_eq_true rfl) (by omega) (by omega) ?_
          rintro _ M1 ⟨rfl, rfl⟩
          dsimp only [Option.toList, List.cons_append, List.nil_append]
          refine s_maxN C 46 dX5_commonRun_43 rfl mm_X5_45 rfl (by decide) (Nat.le_of_ble_eq_true rfl) (by omega) (by omega) ?_
          refine s_istore_n C 47 dX5_commonRun_46 rfl rfl rfl ?_
          dsimp only [List.set]
          refine s_iinc C 50 (nI (j + 1)) dX5_commonRun_47 rfl rfl (by rw [← nI_add]; rfl) rfl ?_
          dsimp only [List.set]
          refine s_goto C 16 dX5_commonRun_50 (by decide) ?_
          exact ih16 (j + 1) _ (by omega) (by omega) (by rw [hc2, cmJ, Nat.max_assoc])

set_option maxRecDepth 100000 in
set_option maxHeartbeats 4000000 in
/-- Title.hasLettersOf -/
theorem c_hasLettersOf {G : mG} {M : mM} {a la ia n m b lb ib n2 m2 : Nat} {f ini g ini2 : Nat → Int32} {u u2 : Int32} (hO : M a = some (1, .inl (6, [.ref la, .ref ia, .int u]))) (hL : M la = some (1, .inr (1, n, .inl f))) (hI : M ia = some (1, .inr (1, m, .inl ini))) (hO2 : M b = some (1, .inl (6, [.ref lb, .ref ib, .int u2]))) (hL2 : M lb = some (1, .inr (1, n2, .inl g))) (hI2 : M ib = some (1, .inr (1, m2, .inl ini2))) (hn : n < 100000) (hn2 : n2 < 100000) : CC G iX5_hasLettersOf 0 0 [.ref a, .ref b] M (fun r M1 => r = some (.int (mB (eqT f g n n2))) ∧ M = M1) := by
  refine CC.of rfl (Nat.le_of_ble_eq_true rfl) rfl (fun X C Tr => ?_)
  show V X 0 0 0 [some (.ref a), some (.ref b)] [] M
  refine s_aload_n C 1 dX5_hasLettersOf_0 rfl rfl ?_
  refine s_getf C 4 dX5_hasLettersOf_1 rfl f_X5_9 hO rfl ?_
  refine s_alen C 5 dX5_hasLettersOf_4 rfl hL (by decide) ?_
  refine s_aload_n C 6 dX5_hasLettersOf_5 rfl rfl ?_
  refine s_getf C 9 dX5_hasLettersOf_6 rfl f_X5_9 hO2 rfl ?_
  refine s_alen C 10 dX5_hasLettersOf_9 rfl hL2 (by decide) ?_
  refine s_icmp_neN C 43 13 dX5_hasLettersOf_10 (by decide) rfl (by omega) (by omega) (fun z10 => ?_) (fun z10 => ?_)
  · skip
    have hz : eqT f g n n2 = false := by simp [eqT, z10]
    refine s_iconst C 44 (nI 0) dX5_hasLettersOf_43 rfl (by decide) ?_
    exact s_zret C dX5_hasLettersOf_44 Tr rfl (by decide) ⟨rF hz, rfl⟩
  · skip
    refine s_aload_n C 14 dX5_hasLettersOf_13 rfl rfl ?_
    refine s_getf C 17 dX5_hasLettersOf_14 rfl f_X5_9 hO rfl ?_
    refine s_iconst C 18 (nI 0) dX5_hasLettersOf_17 rfl (by decide) ?_
    refine s_aload_n C 19 dX5_hasLettersOf_18 rfl rfl ?_
    refine s_getf C 22 dX5_hasLettersOf_19 rfl f_X5_9 hO2 rfl ?_
    refine s_iconst C 23 (nI 0) dX5_hasLettersOf_22 rfl (by decide) ?_
    refine s_aload_n C 24 dX5_hasLettersOf_23 rfl rfl ?_
    refine s_getf C 27 dX5_hasLettersOf_24 rfl f_X5_9 hO rfl ?_
    refine s_alen C 28 dX5_hasLettersOf_27 rfl hL (by decide) ?_
    have hsl := sl_le (f := f) (g := g) (n := n) (m := n2) n 0 0
    refine s_invS C 31 0 0 [] dX5_hasLettersOf_28 rfl m_X5_41 (c_sameLength (i := 0) (j := 0) hL hL2 hn hn2 (by omega) (by omega) (by omega)) rfl rfl rfl ⟨by decide, by decide⟩ (Nat.le_of_ble_eq_true rfl) (by omega) (by omega) ?_
    rintro _ M1 ⟨rfl, rfl⟩
    dsimp only [Option.toList, List.cons_append, List.nil_append]
    refine s_aload_n C 32 dX5_hasLettersOf_31 rfl rfl ?_
    refine s_getf C 35 dX5_hasLettersOf_32 rfl f_X5_9 hO rfl ?_
    refine s_alen C 36 dX5_hasLettersOf_35 rfl hL (by decide) ?_
    refine s_icmp_neN C 43 39 dX5_hasLettersOf_36 (by decide) rfl (by omega) (by omega) (fun z36 => ?_) (fun z36 => ?_)
    · skip
      have hz : eqT f g n n2 = false := by have := (not_congr (sl_full (q := f) (r := g) (a := n) (b := n2) (p := 0) (len := n) (Nat.le_refl _) (by omega))).mp z36; simp [eqT, this]
      refine s_iconst C 44 (nI 0) dX5_hasLettersOf_43 rfl (by decide) ?_
      exact s_zret C dX5_hasLettersOf_44 Tr rfl (by decide) ⟨rF hz, rfl⟩
    · skip
      have hz : eqT f g n n2 = true := by have := (sl_full (q := f) (r := g) (a := n) (b := n2) (p := 0) (len := n) (Nat.le_refl _) (by omega)).mp z36; subst z10; simp [eqT, this]
      refine s_iconst C 40 (nI 1) dX5_hasLettersOf_39 rfl (by decide) ?_
      refine s_goto C 44 dX5_hasLettersOf_40 (by decide) ?_
      exact s_zret C dX5_hasLettersOf_44 Tr rfl (by decide) ⟨rT hz, rfl⟩

set_option maxRecDepth 100000 in
set_option maxHeartbeats 4000000 in
/-- Title.comesByNameBefore -/
theorem c_byName {G : mG} {M : mM} {a la ia n m b lb ib n2 m2 : Nat} {f ini g ini2 : Nat → Int32} {u u2 : Int32} (hO : M a = some (1, .inl (6, [.ref la, .ref ia, .int u]))) (hL : M la = some (1, .inr (1, n, .inl f))) (hI : M ia = some (1, .inr (1, m, .inl ini))) (hO2 : M b = some (1, .inl (6, [.ref lb, .ref ib, .int u2]))) (hL2 : M lb = some (1, .inr (1, n2, .inl g))) (hI2 : M ib = some (1, .inr (1, m2, .inl ini2))) (hn : n < 100000) (hn2 : n2 < 100000) : CC G iX5_comesByNameBefore 0 0 [.ref a, .ref b] M (fun r M1 => r = some (.int (mB (nb f g n n2 0 n))) ∧ M = M1) := by
  refine CC.of rfl (Nat.le_of_ble_eq_true rfl) rfl (fun X C Tr => ?_)
  show V X 0 0 0 [some (.ref a), some (.ref b), none] [] M
  refine s_iconst C 1 (nI 0) dX5_comesByNameBefore_0 rfl (by decide) ?_
  refine s_istore_n C 2 dX5_comesByNameBefore_1 rfl rfl rfl ?_
  dsimp only [List.set]
  suffices lp2 : ∀ (fu2 : Nat) (k : Nat), n - k < fu2 → k ≤ n → nb f g n n2 0 n = nb f g n n2 k (n - k) → V X 0 0 2 [some (.ref a), some (.ref b), some (.int (nI k))] [] M from lp2 (n + 1) 0 (by omega) (by omega) rfl
  intro fu2
  induction fu2 with
  | zero => intro k hk0 hk hkk; omega
  | succ fu2 ih2 =>
    intro k hk0 hk hkk
    refine s_iload_n C 3 dX5_comesByNameBefore_2 rfl rfl ?_
    refine s_aload_n C 4 dX5_comesByNameBefore_3 rfl rfl ?_
    refine s_getf C 7 dX5_comesByNameBefore_4 rfl f_X5_9 hO rfl ?_
    refine s_alen C 8 dX5_comesByNameBefore_7 rfl hL (by decide) ?_
    refine s_icmp_geN C 62 11 dX5_comesByNameBefore_8 (by decide) rfl (by omega) (by omega) (fun z8 => ?_) (fun z8 => ?_)
    · skip
      refine s_aload_n C 63 dX5_comesByNameBefore_62 rfl rfl ?_
      refine s_getf C 66 dX5_comesByNameBefore_63 rfl f_X5_9 hO rfl ?_
      refine s_alen C 67 dX5_comesByNameBefore_66 rfl hL (by decide) ?_
      refine s_aload_n C 68 dX5_comesByNameBefore_67 rfl rfl ?_
      refine s_getf C 71 dX5_comesByNameBefore_68 rfl f_X5_9 hO2 rfl ?_
      refine s_alen C 72 dX5_comesByNameBefore_71 rfl hL2 (by decide) ?_
      refine s_icmp_geN C 79 75 dX5_comesByNameBefore_72 (by decide) rfl (by omega) (by omega) (fun z72 => ?_) (fun z72 => ?_)
      · skip
        have hz : nb f g n n2 0 n = false := by rw [hkk, nb_stop (by omega)]; simp; omega
        refine s_iconst C 80 (nI 0) dX5_comesByNameBefore_79 rfl (by decide) ?_
        exact s_zret C dX5_comesByNameBefore_80 Tr rfl (by decide) ⟨rF hz, rfl⟩
      · skip
        have hz : nb f g n n2 0 n = true := by rw [hkk, nb_stop (by omega)]; simp; omega
        refine s_iconst C 76 (nI 1) dX5_comesByNameBefore_75 rfl (by decide) ?_
        refine s_goto C 80 dX5_comesByNameBefore_76 (by decide) ?_
        exact s_zret C dX5_comesByNameBefore_80 Tr rfl (by decide) ⟨rT hz, rfl⟩
    · skip
      refine s_iload_n C 12 dX5_comesByNameBefore_11 rfl rfl ?_
      refine s_aload_n C 13 dX5_comesByNameBefore_12 rfl rfl ?_
      refine s_getf C 16 dX5_comesByNameBefore_13 rfl f_X5_9 hO2 rfl ?_
      refine s_alen C 17 dX5_comesByNameBefore_16 rfl hL2 (by decide) ?_
      refine s_icmp_geN C 62 20 dX5_comesByNameBefore_17 (by decide) rfl (by omega) (by omega) (fun z17 => ?_) (fun z17 => ?_)
      · skip
        refine s_aload_n C 63 dX5_comesByNameBefore_62 rfl rfl ?_
        refine s_getf C 66 dX5_comesByNameBefore_63 rfl f_X5_9 hO rfl ?_
        refine s_alen C 67 dX5_comesByNameBefore_66 rfl hL (by decide) ?_
        refine s_aload_n C 68 dX5_comesByNameBefore_67 rfl rfl ?_
        refine s_getf C 71 dX5_comesByNameBefore_68 rfl f_X5_9 hO2 rfl ?_
        refine s_alen C 72 dX5_comesByNameBefore_71 rfl hL2 (by decide) ?_
        refine s_icmp_geN C 79 75 dX5_comesByNameBefore_72 (by decide) rfl (by omega) (by omega) (fun z72 => ?_) (fun z72 => ?_)
        · skip
          have hz : nb f g n n2 0 n = false := by rw [hkk, nb_stop (by omega)]; simp; omega
          refine s_iconst C 80 (nI 0) dX5_comesByNameBefore_79 rfl (by decide) ?_
          exact s_zret C dX5_comesByNameBefore_80 Tr rfl (by decide) ⟨rF hz, rfl⟩
        · skip
          have hz : nb f g n n2 0 n = true := by rw [hkk, nb_stop (by omega)]; simp; omega
          refine s_iconst C 76 (nI 1) dX5_comesByNameBefore_75 rfl (by decide) ?_
          refine s_goto C 80 dX5_comesByNameBefore_76 (by decide) ?_
          exact s_zret C dX5_comesByNameBefore_80 Tr rfl (by decide) ⟨rT hz, rfl⟩
      · skip
        refine s_aload_n C 21 dX5_comesByNameBefore_20 rfl rfl ?_
        refine s_getf C 24 dX5_comesByNameBefore_21 rfl f_X5_9 hO rfl ?_
        refine s_iload_n C 25 dX5_comesByNameBefore_24 rfl rfl ?_
        refine s_cald C 26 dX5_comesByNameBefore_25 rfl hL (by omega) (by omega) ?_
        refine s_aload_n C 27 dX5_comesByNameBefore_26 rfl rfl ?_
        refine s_getf C 30 dX5_comesByNameBefore_27 rfl f_X5_9 hO2 rfl ?_
        refine s_iload_n C 31 dX5_comesByNameBefore_30 rfl rfl ?_
        refine s_cald C 32 dX5_comesByNameBefore_31 rfl hL2 (by omega) (by omega) ?_
        refine s_icmp_eq C 56 35 dX5_comesByNameBefore_32 (by decide) rfl (fun z32 => ?_) (fun z32 => ?_)
        · skip
          refine s_iinc C 59 (nI (k + 1)) dX5_comesByNameBefore_56 rfl rfl (by rw [← nI_add]; rfl) rfl ?_
          dsimp only [List.set]
          refine s_goto C 2 dX5_comesByNameBefore_59 (by decide) ?_
          exact ih2 (k + 1) (by omega) (by omega) (by rw [hkk, nb_eq (by omega) (by omega) (by omega) z32, show n - k - 1 = n - (k + 1) by omega])
        · skip
          refine s_aload_n C 36 dX5_comesByNameBefore_35 rfl rfl ?_
          refine s_getf C 39 dX5_comesByNameBefore_36 rfl f_X5_9 hO rfl ?_
          refine s_iload_n C 40 dX5_comesByNameBefore_39 rfl rfl ?_
          refine s_cald C 41 dX5_comesByNameBefore_40 rfl hL (by omega) (by omega) ?_
          refine s_aload_n C 42 dX5_comesByNameBefore_41 rfl rfl ?_
          refine s_getf C 45 dX5_comesByNameBefore_42 rfl f_X5_9 hO2 rfl ?_
          refine s_iload_n C 46 dX5_comesByNameBefore_45 rfl rfl ?_
          refine s_cald C 47 dX5_comesByNameBefore_46 rfl hL2 (by omega) (by omega) ?_
          refine s_icmp_ge C 54 50 dX5_comesByNameBefore_47 (by decide) rfl (fun z47 => ?_) (fun z47 => ?_)
          · skip
            have hz : nb f g n n2 0 n = false := by rw [hkk, nb_ne (by omega) (by omega) (by omega) z32]; simpa using i32_le.mp z47
            refine s_iconst C 55 (nI 0) dX5_comesByNameBefore_54 rfl (by decide) ?_
            exact s_zret C dX5_comesByNameBefore_55 Tr rfl (by decide) ⟨rF hz, rfl⟩
          · skip
            have hz : nb f g n n2 0 n = true := by rw [hkk, nb_ne (by omega) (by omega) (by omega) z32]; simpa using i32_nle.mp z47
            refine s_iconst C 51 (nI 1) dX5_comesByNameBefore_50 rfl (by decide) ?_
            refine s_goto C 55 dX5_comesByNameBefore_51 (by decide) ?_
            exact s_zret C dX5_comesByNameBefore_55 Tr rfl (by decide) ⟨rT hz, rfl⟩

set_option maxRecDepth 100000 in
set_option maxHeartbeats 4000000 in
/-- Title.wordCount -/
theorem c_wordCount {G : mG} {M : mM} {a t n : Nat} {f : Nat → Int32} (hA : M a = some (t, .inr (1, n, .inl f))) (hn : n < 100000) : CC G iX5_wordCount 0 0 [.ref a] M (fun r M1 => r = some (.int (nI (1 + cnB f n))) ∧ M = M1) := by
  refine CC.of rfl (Nat.le_of_ble_eq_true rfl) rfl (fun X C Tr => ?_)
  show V X 0 0 0 [some (.ref a), none, none] [] M
  refine s_iconst C 1 (nI 1) dX5_wordCount_0 rfl (by decide) ?_
  refine s_istore_n C 2 dX5_wordCount_1 rfl rfl rfl ?_
  dsimp only [List.set]
  refine s_iconst C 3 (nI 0) dX5_wordCount_2 rfl (by decide) ?_
  refine s_istore_n C 4 dX5_wordCount_3 rfl rfl rfl ?_
  dsimp only [List.set]
  suffices lp4 : ∀ (fu4 : Nat) (k c : Nat), n - k < fu4 → k ≤ n → c = 1 + cnB f k → V X 0 0 4 [some (.ref a), some (.int (nI c)), some (.int (nI k))] [] M from lp4 (n + 1) 0 1 (by omega) (by omega) rfl
  intro fu4
  induction fu4 with
  | zero => intro k c hk0 hk hc; omega
  | succ fu4 ih4 =>
    intro k c hk0 hk hc
    have hcb := cnB_le (f := f) k
    have hcl : c ≤ n + 1 := by omega
    refine s_iload_n C 5 dX5_wordCount_4 rfl rfl ?_
    refine s_aload_n C 6 dX5_wordCount_5 rfl rfl ?_
    refine s_alen C 7 dX5_wordCount_6 rfl hA (by decide) ?_
    refine s_icmp_geN C 27 10 dX5_wordCount_7 (by decide) rfl (by omega) (by omega) (fun z7 => ?_) (fun z7 => ?_)
    · skip
      refine s_iload_n C 28 dX5_wordCount_27 rfl rfl ?_
      exact s_iret C dX5_wordCount_28 Tr rfl ⟨by rw [hc, show k = n by omega], rfl⟩
    · skip
      refine s_aload_n C 11 dX5_wordCount_10 rfl rfl ?_
      refine s_iload_n C 12 dX5_wordCount_11 rfl rfl ?_
      refine s_cald C 13 dX5_wordCount_12 rfl hA (by omega) (by omega) ?_
      refine s_bipush C 15 (nI 32) dX5_wordCount_13 rfl (by decide) ?_
      refine s_icmp_ne C 21 18 dX5_wordCount_15 (by decide) rfl (fun z15 => ?_) (fun z15 => ?_)
      · skip
        refine s_iinc C 24 (nI (k + 1)) dX5_wordCount_21 rfl rfl (by rw [← nI_add]; rfl) rfl ?_
        dsimp only [List.set]
        refine s_goto C 4 dX5_wordCount_24 (by decide) ?_
        exact ih4 (k + 1) _ (by omega) (by omega) (by rw [hc, cnB, if_neg z15]; omega)
      · skip
        refine s_iinc C 21 (nI (c + 1)) dX5_wordCount_18 rfl rfl (by rw [← nI_add]; rfl) rfl ?_
        dsimp only [List.set]
        refine s_iinc C 24 (nI (k + 1)) dX5_wordCount_21 rfl rfl (by rw [← nI_add]; rfl) rfl ?_
        dsimp only [List.set]
        refine s_goto C 4 dX5_wordCount_24 (by decide) ?_
        exact ih4 (k + 1) _ (by omega) (by omega) (by rw [hc, cnB, if_pos z15]; omega)

set_option maxRecDepth 100000 in
set_option maxHeartbeats 4000000 in
/-- Title.initialsOf -/
theorem c_initialsOf {G : mG} {M : mM} {a t n : Nat} {f : Nat → Int32} (hA : M a = some (t, .inr (1, n, .inl f))) (ht2 : t ≠ 2) (hn : n ≤ 24) (hch : ∀ k, k < n → vp_nar .char (f k) = f k) : CC G iX5_initialsOf 1 25 [.ref a] M (fun r M1 => ∃ ia ini, r = some (.ref ia) ∧ M ia = none ∧ inT f ini n ∧ M1 ia = some (2, .inr (1, 1 + cnB f n, .inl ini)) ∧ mZ [] M M1) := by
  refine CC.of rfl (Nat.le_of_ble_eq_true rfl) rfl (fun X C Tr => ?_)
  show V X 1 25 0 [some (.ref a), none, none, none] [] M
  have hF : mZ [] M M := mZ.rf
  refine s_aload_n C 1 dX5_initialsOf_0 rfl rfl ?_
  refine s_invS C 4 1 25 [] dX5_initialsOf_1 rfl m_X5_29 (c_wordCount hA (by omega)) rfl rfl rfl ⟨by decide, by decide⟩ (Nat.le_of_ble_eq_true rfl) (by omega) (by omega) ?_
  rintro _ M1 ⟨rfl, rfl⟩
  dsimp only [Option.toList, List.cons_append, List.nil_append]
  have hcb := cnB_le (f := f) n
  refine s_newaU C 6 0 0 2 dX5_initialsOf_4 rfl (Or.inr ⟨rfl, rfl, ac_char⟩) (by omega) (by first | decide | omega) (by omega) (by omega) (fun ia M2 hnia U3 => ?_)
  have hA := U3.n hnia hA
  have hnia0 := hF.no hnia
  have hF := hF.new U3 hnia
  have hI := U3.s
  refine s_astore_n C 7 dX5_initialsOf_6 rfl rfl rfl ?_
  dsimp only [List.set]
  refine s_iconst C 8 (nI 0) dX5_initialsOf_7 rfl (by decide) ?_
  refine s_istore_n C 9 dX5_initialsOf_8 rfl rfl rfl ?_
  dsimp only [List.set]
  refine s_iconst C 10 (nI 0) dX5_initialsOf_9 rfl (by decide) ?_
  refine s_istore_n C 11 dX5_initialsOf_10 rfl rfl rfl ?_
  dsimp only [List.set]
  suffices lp11 : ∀ (fu11 : Nat) (i x : Nat) (h : Nat → Int32) (M9 : mM), n - i < fu11 → i ≤ n → x = wsN f i → (∀ k, k < i → wsB f k = true → h (wsN f k) = f k) → M9 a = some (t, .inr (1, n, .inl f)) → M9 ia = some (2, .inr (1, 1 + cnB f n, .inl h)) → mZ [] M M9 → V X 0 0 11 [some (.ref a), some (.ref ia), some (.int (nI x)), some (.int (nI i))] [] M9 from lp11 (n + 1) 0 0 _ _ (by omega) (by omega) rfl (fun k hk => by omega) hA hI hF
  intro fu11
  induction fu11 with
  | zero => intro i x h M9 hi0 hi hx hh hA hI hF; omega
  | succ fu11 ih11 =>
    intro i x h M9 hi0 hi hx hh hA hI hF
    have hcb := cnB_le (f := f) n
    have hxn : x ≤ n + 1 := by rw [hx]; cases i with | zero => exact Nat.zero_le _ | succ i => rw [wsN_cnB]; have := cnB_mono (f := f) (a := i) n (by omega); omega
    refine s_iload_n C 12 dX5_initialsOf_11 rfl rfl ?_
    refine s_aload_n C 13 dX5_initialsOf_12 rfl rfl ?_
    refine s_alen C 14 dX5_initialsOf_13 rfl hA (by decide) ?_
    refine s_icmp_geN C 52 17 dX5_initialsOf_14 (by decide) rfl (by omega) (by omega) (fun z14 => ?_) (fun z14 => ?_)
    · skip
      have hz : inT f h n := fun k hk hwk => hh k (by omega) hwk
      refine s_aload_n C 53 dX5_initialsOf_52 rfl rfl ?_
      exact s_aret C dX5_initialsOf_53 Tr rfl (Or.inr ⟨_, rfl⟩) ⟨_, _, rfl, hnia0, hz, hI, hF⟩
    · skip
      refine s_iload_n C 18 dX5_initialsOf_17 rfl rfl ?_
      refine s_aload_n C 19 dX5_initialsOf_18 rfl rfl ?_
      refine s_alen C 20 dX5_initialsOf_19 rfl hI (by decide) ?_
      refine s_icmp_geN C 52 23 dX5_initialsOf_20 (by decide) rfl (by omega) (by omega) (fun z20 => ?_) (fun z20 => ?_)
      · skip
        have hz : inT f h n := fun k hk hwk => by
          by_cases e : k < i
          · exact hh k e hwk
          · have h1 := wsN_lt (f := f) (show k < k + 1 by omega) hwk
            rw [wsN_cnB] at h1
            have h2 := wsN_mono (f := f) k (show i ≤ k by omega)
            have h3 := wsN_cnB (f := f) k
            rw [wsN, if_pos hwk] at h3
            have h4 := cnB_mono (f := f) (a := k) n (by omega)
            omega
        refine s_aload_n C 53 dX5_initialsOf_52 rfl rfl ?_
        exact s_aret C dX5_initialsOf_53 Tr rfl (Or.inr ⟨_, rfl⟩) ⟨_, _, rfl, hnia0, hz, hI, hF⟩
      · skip
        refine s_iload_n C 24 dX5_initialsOf_23 rfl rfl ?_
        refine s_if_eqN C 37 27 dX5_initialsOf_24 (by decide) rfl (by omega) (fun z24 => ?_) (fun z24 => ?_)
        · skip
          have hw : wsB f i = true := by simp [wsB, z24]
          refine s_aload_n C 38 dX5_initialsOf_37 rfl rfl ?_
          refine s_iload_n C 39 dX5_initialsOf_38 rfl rfl ?_
          refine s_aload_n C 40 dX5_initialsOf_39 rfl rfl ?_
          refine s_iload_n C 41 dX5_initialsOf_40 rfl rfl ?_
          refine s_cald C 42 dX5_initialsOf_41 rfl hA (by omega) (by omega) ?_
          refine s_castU C 43 dX5_initialsOf_42 rfl hI (by first | decide | omega) (by omega) (by omega) (hch _ (by omega)) (fun M4 U5 => ?_)
          have hA := U5.o hI hA (by first | decide | omega)
          have hF := hF.putn U5 hnia0
          have hI := U5.s
          refine s_iinc C 46 (nI (x + 1)) dX5_initialsOf_43 rfl rfl (by rw [← nI_add]; rfl) rfl ?_
          dsimp only [List.set]
          refine s_iinc C 49 (nI (i + 1)) dX5_initialsOf_46 rfl rfl (by rw [← nI_add]; rfl) rfl ?_
          dsimp only [List.set]
          refine s_goto C 11 dX5_initialsOf_49 (by decide) ?_
          have hh2 : ∀ k, k < i + 1 → wsB f k = true → upd h x (f i) (wsN f k) = f k := by
            intro k hk2 hwk
            by_cases e : k = i
            · rw [e, hx]; exact pk_us
            · rw [pk_un (by have := wsN_lt (f := f) (show k < i by omega) hwk; omega)]; exact hh k (by omega) hwk
          exact ih11 (i + 1) _ _ _ (by omega) (by omega) (by rw [hx, wsN, if_pos hw]) hh2 hA hI hF
        · skip
          refine s_aload_n C 28 dX5_initialsOf_27 rfl rfl ?_
          refine s_iload_n C 29 dX5_initialsOf_28 rfl rfl ?_
          refine s_iconst C 30 (nI 1) dX5_initialsOf_29 rfl (by decide) ?_
          refine s_isubN C 31 dX5_initialsOf_30 rfl (by omega) ?_
          refine s_cald C 32 dX5_initialsOf_31 rfl hA (by omega) (by omega) ?_
          refine s_bipush C 34 (nI 32) dX5_initialsOf_32 rfl (by decide) ?_
          refine s_icmp_ne C 46 37 dX5_initialsOf_34 (by decide) rfl (fun z34 => ?_) (fun z34 => ?_)
          · skip
            have hw : wsB f i = false := by simp [wsB, z24, z34]
            refine s_iinc C 49 (nI (i + 1)) dX5_initialsOf_46 rfl rfl (by rw [← nI_add]; rfl) rfl ?_
            dsimp only [List.set]
            refine s_goto C 11 dX5_initialsOf_49 (by decide) ?_
            have hh2 : ∀ k, k < i + 1 → wsB f k = true → h (wsN f k) = f k := by
              intro k hk2 hwk
              by_cases e : k = i
              · rw [e, hw] at hwk; cases hwk
              · exact hh k (by omega) hwk
            exact ih11 (i + 1) _ _ _ (by omega) (by omega) (by rw [hx, wsN, if_neg (by rw [hw]; decide), Nat.add_zero]) hh2 hA hI hF
          · skip
            have hw : wsB f i = true := by simp [wsB, z34]
            refine s_aload_n C 38 dX5_initialsOf_37 rfl rfl ?_
            refine s_iload_n C 39 dX5_initialsOf_38 rfl rfl ?_
            refine s_aload_n C 40 dX5_initialsOf_39 rfl rfl ?_
            refine s_iload_n C 41 dX5_initialsOf_40 rfl rfl ?_
            refine s_cald C 42 dX5_initialsOf_41 rfl hA (by omega) (by omega) ?_
            refine s_castU C 43 dX5_initialsOf_42 rfl hI (by first | decide | omega) (by omega) (by omega) (hch _ (by omega)) (fun M6 U7 => ?_)
            have hA := U7.o hI hA (by first | decide | omega)
            have hF := hF.putn U7 hnia0
            have hI := U7.s
            refine s_iinc C 46 (nI (x + 1)) dX5_initialsOf_43 rfl rfl (by rw [← nI_add]; rfl) rfl ?_
            dsimp only [List.set]
            refine s_iinc C 49 (nI (i + 1)) dX5_initialsOf_46 rfl rfl (by rw [← nI_add]; rfl) rfl ?_
            dsimp only [List.set]
            refine s_goto C 11 dX5_initialsOf_49 (by decide) ?_
            have hh2 : ∀ k, k < i + 1 → wsB f k = true → upd h x (f i) (wsN f k) = f k := by
              intro k hk2 hwk
              by_cases e : k = i
              · rw [e, hx]; exact pk_us
              · rw [pk_un (by have := wsN_lt (f := f) (show k < i by omega) hwk; omega)]; exact hh k (by omega) hwk
            exact ih11 (i + 1) _ _ _ (by omega) (by omega) (by rw [hx, wsN, if_pos hw]) hh2 hA hI hF

set_option maxRecDepth 100000 in
set_option maxHeartbeats 4000000 in
/-- Title() -/
theorem c_titleInit {G : mG} {M : mM} {a la ia : Nat} {u : Int32} (hO : M a = some (4, .inl (6, [.null, .null, .int 0]))) : CC G iX5_init 0 0 [.ref a, .ref la, .ref ia, .int u] M (fun r M1 => r = none ∧ mU M a (4, .inl (6, [.ref la, .ref ia, .int u])) M1) := by
  refine CC.of rfl (Nat.le_of_ble_eq_true rfl) rfl (fun X C Tr => ?_)
  show V X 0 0 0 [some (.ref a), some (.ref la), some (.ref ia), some (.int u)] [] M
  refine s_aload_n C 1 dX5_init_0 rfl rfl ?_
  refine s_oi C 4 dX5_init_1 rfl oi_X5_3 rfl (by decide) (Nat.le_of_ble_eq_true rfl) ?_
  refine s_aload_n C 5 dX5_init_4 rfl rfl ?_
  refine s_aload_n C 6 dX5_init_5 rfl rfl ?_
  refine s_putFU C 9 dX5_init_6 rfl p_X5_9 rfl hO (by first | decide | omega) rfl rfl rfl (fs' := [.ref la, .null, .int 0]) rfl (fun M1 U2 => ?_)
  have hO := U2.s
  refine s_aload_n C 10 dX5_init_9 rfl rfl ?_
  refine s_aload_n C 11 dX5_init_10 rfl rfl ?_
  refine s_putFU C 14 dX5_init_11 rfl p_X5_15 rfl hO (by first | decide | omega) rfl rfl rfl (fs' := [.ref la, .ref ia, .int 0]) rfl (fun M3 U4 => ?_)
  have hO := U4.s
  refine s_aload_n C 15 dX5_init_14 rfl rfl ?_
  refine s_iload_n C 16 dX5_init_15 rfl rfl ?_
  refine s_putFU C 19 dX5_init_16 rfl p_X5_18 rfl hO (by first | decide | omega) rfl rfl rfl (fs' := [.ref la, .ref ia, .int u]) rfl (fun M5 U6 => ?_)
  have hO := U6.s
  exact s_vret C dX5_init_19 Tr rfl ⟨rfl, hO, fun b hb => by rw [U6.2 b hb, U4.2 b hb, U2.2 b hb]⟩

set_option maxRecDepth 100000 in
set_option maxHeartbeats 4000000 in
/-- Title.unused -/
theorem c_unused {G : mG} {M : mM} {la n : Nat} {f : Nat → Int32} (hL : M la = some (3, .inr (1, n, .inl f))) (hn : n ≤ 24) (hch : ∀ k, k < n → vp_nar .char (f k) = f k) : CC G iX5_unused 2 28 [.ref la] M (fun r M1 => ∃ a ini, r = some (.ref a) ∧ M a = none ∧ inT f ini n ∧ tR M1 a n f (1 + cnB f n) ini (nI 0) ∧ (∀ b y, b ≠ la → M b = some y → M1 b = some y) ∧ (∀ b, M1 b = none → M b = none)) := by
  refine CC.of rfl (Nat.le_of_ble_eq_true rfl) rfl (fun X C Tr => ?_)
  show V X 2 28 0 [some (.ref la)] [] M
  have hF : mZ [] M M := mZ.rf
  refine s_newU C 3 1 25 4 dX5_unused_0 rfl n_X5_10 (by first | decide | omega) (by omega) (by first | omega | (show _ + _ ≤ _; simp only [List.length_cons, List.length_nil]; omega)) (fun a M1 hna U2 => ?_)
  have hL := U2.n hna hL
  have hna0 := hF.no hna
  have hF := hF.new U2 hna
  have hO := U2.s
  refine s_dup C 4 dX5_unused_3 rfl rfl ?_
  refine s_aload_n C 5 dX5_unused_4 rfl rfl ?_
  refine s_aload_n C 6 dX5_unused_5 rfl rfl ?_
  refine s_invS C 9 0 0 [.ref la, .ref a, .ref a] dX5_unused_6 rfl m_X5_22 (c_initialsOf hL (by decide) hn hch) rfl rfl rfl ⟨by decide, by decide⟩ (Nat.le_of_ble_eq_true rfl) (by omega) (by omega) ?_
  rintro _ M3 ⟨ia, ini, rfl, hni, hin, hI, hFi⟩
  dsimp only [Option.toList, List.cons_append, List.nil_append]
  have hnia := hni
  have hL := hFi.at hL (by decide)
  have hO := hFi.at hO (by decide)
  have hnia0 := hF.no hni
  have hF := hF.tr hFi
  refine s_iconst C 10 (nI 0) dX5_unused_9 rfl (by decide) ?_
  refine s_invI C 13 0 0 [.ref a] dX5_unused_10 rfl m_X5_26 (c_titleInit hO) rfl rfl rfl ⟨by decide, by decide⟩ (Nat.le_of_ble_eq_true rfl) (by omega) (by omega) ?_
  rintro _ M5 ⟨rfl, U4⟩
  dsimp only [Option.toList, List.cons_append, List.nil_append]
  have hL := U4.o hO hL (by first | decide | omega)
  have hI := U4.o hO hI (by first | decide | omega)
  have hF := hF.putn U4 hna0
  have hO := U4.s
  refine s_tagU ia 2 1 hI (by decide) (by decide) (fun M6 U7 => ?_)
  have hL := U7.o hI hL (by first | decide | omega)
  have hO := U7.o hI hO (by first | decide | omega)
  have hF := hF.putn U7 hnia0
  have hI := U7.s
  refine s_tagU a 4 1 hO (by decide) (by decide) (fun M8 U9 => ?_)
  have hL := U9.o hO hL (by first | decide | omega)
  have hI := U9.o hO hI (by first | decide | omega)
  have hF := hF.putn U9 hna0
  have hO := U9.s
  have hF0 := hF
  refine s_tagU la 3 1 hL (by decide) (by decide) (fun M10 U11 => ?_)
  have hO := U11.o hL hO (by first | decide | omega)
  have hI := U11.o hL hI (by first | decide | omega)
  have hL := U11.s
  exact s_aret C dX5_unused_13 Tr rfl (Or.inl ⟨_, rfl⟩) ⟨a, ini, rfl, hna0, hin, ⟨la, ia, hO, hL, hI⟩, fun b y hb hy => U11.od (hF0.at hy (fun h => nomatch h)) hb, fun b hb => hF0.no (by by_cases e : b = la; (· rw [e] at hb; rw [hL] at hb; cases hb); rw [U11.2 b e] at hb; exact hb)⟩

set_option maxRecDepth 100000 in
set_option maxHeartbeats 4000000 in
/-- Title.usedOnceMore -/
theorem c_usedOnceMore {G : mG} {M : mM} {a la ia n m : Nat} {f ini : Nat → Int32} {u : Int32} (hO : M a = some (1, .inl (6, [.ref la, .ref ia, .int u]))) (hL : M la = some (1, .inr (1, n, .inl f))) (hI : M ia = some (1, .inr (1, m, .inl ini))) : CC G iX5_usedOnceMore 1 3 [.ref a] M (fun r M1 => ∃ b, r = some (.ref b) ∧ M b = none ∧ tR M1 b n f m ini (u + nI 1) ∧ mZ [] M M1) := by
  refine CC.of rfl (Nat.le_of_ble_eq_true rfl) rfl (fun X C Tr => ?_)
  show V X 1 3 0 [some (.ref a)] [] M
  have hF : mZ [] M M := mZ.rf
  refine s_newU C 3 0 0 4 dX5_usedOnceMore_0 rfl n_X5_10 (by first | decide | omega) (by omega) (by first | omega | (show _ + _ ≤ _; simp only [List.length_cons, List.length_nil]; omega)) (fun b M1 hnb U2 => ?_)
  have hO := U2.n hnb hO
  have hL := U2.n hnb hL
  have hI := U2.n hnb hI
  have hnb0 := hF.no hnb
  have hF := hF.new U2 hnb
  have hB := U2.s
  refine s_dup C 4 dX5_usedOnceMore_3 rfl rfl ?_
  refine s_aload_n C 5 dX5_usedOnceMore_4 rfl rfl ?_
  refine s_getf C 8 dX5_usedOnceMore_5 rfl f_X5_9 hO rfl ?_
  refine s_aload_n C 9 dX5_usedOnceMore_8 rfl rfl ?_
  refine s_getf C 12 dX5_usedOnceMore_9 rfl f_X5_15 hO rfl ?_
  refine s_aload_n C 13 dX5_usedOnceMore_12 rfl rfl ?_
  refine s_getf C 16 dX5_usedOnceMore_13 rfl f_X5_18 hO rfl ?_
  refine s_iconst C 17 (nI 1) dX5_usedOnceMore_16 rfl (by decide) ?_
  refine s_iadd C 18 dX5_usedOnceMore_17 rfl ?_
  refine s_invI C 21 0 0 [.ref b] dX5_usedOnceMore_18 rfl m_X5_26 (c_titleInit hB) rfl rfl rfl ⟨by decide, by decide⟩ (Nat.le_of_ble_eq_true rfl) (by omega) (by omega) ?_
  rintro _ M4 ⟨rfl, U3⟩
  dsimp only [Option.toList, List.cons_append, List.nil_append]
  have hO := U3.o hB hO (by first | decide | omega)
  have hL := U3.o hB hL (by first | decide | omega)
  have hI := U3.o hB hI (by first | decide | omega)
  have hF := hF.putn U3 hnb0
  have hB := U3.s
  refine s_tagU b 4 1 hB (by decide) (by decide) (fun M5 U6 => ?_)
  have hO := U6.o hB hO (by first | decide | omega)
  have hL := U6.o hB hL (by first | decide | omega)
  have hI := U6.o hB hI (by first | decide | omega)
  have hF := hF.putn U6 hnb0
  have hB := U6.s
  exact s_aret C dX5_usedOnceMore_21 Tr rfl (Or.inl ⟨_, rfl⟩) ⟨b, rfl, hnb0, ⟨la, ia, hB, hL, hI⟩, hF⟩
