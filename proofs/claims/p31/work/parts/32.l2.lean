/-! the law's arrays: titles, uses -/
abbrev lLn (al : Nat → Nat) : Nat → Nat := fun i => tS (al i)
abbrev lFl (al : Nat → Nat) : Nat → Nat → Int32 := fun i => tF (al i)
abbrev lUs (Q : Nat → Int32) : Nat → Int32 := fun i => Q (3 + i)
/-- a key, a shortcut as the law writes it -/
def bC (k : Nat × Nat) : Int32 := if 0 < k.2 then nI (100 * k.1 + k.2) else -6
theorem okX_of {T mo od : Nat} {al : Nat → Nat} (hT : T ≤ 6) (hm : mo < 4) (ho : od < 3) (hg : ∀ i, i < T → gT (al i)) (hne : ∀ i j, i < T → j < T → i ≠ j → ¬ al i = al j) : okX T mo od 0 (fun _ => 0) (lLn al) (lFl al) := by
  refine ⟨by omega, hm, ho, by omega, fun t ht => (hg t ht).V, fun t u ht hu htu => ?_, fun k hk => by omega⟩
  cases e : eqT (lFl al t) (lFl al u) (lLn al t) (lLn al u) with
  | false => rfl
  | true => exact absurd ((gT_ext (hg t ht) (hg u hu)).mpr e) (hne t u ht hu htu)
/-- how many results are ahead of t, among the first k titles -/
def rkC (mo od ql : Nat) (q : Nat → Int32) (ln : Nat → Nat) (fl : Nat → Nat → Int32) (us : Nat → Int32) (t k : Nat) : Nat := cntP (fun w => (pmO mo ql q (ln w) (fl w)).isSome && (decide (w ≠ t) && cbB od w (plN mo ql q ln fl w) t (plN mo ql q ln fl t) ln fl us)) k
theorem rkC_y {mo od ql : Nat} {q : Nat → Int32} {ln : Nat → Nat} {fl : Nat → Nat → Int32} {us : Nat → Int32} {t k : Nat} (h1 : (pmO mo ql q (ln k) (fl k)).isSome = true) (h2 : k ≠ t) (h3 : cbB od k (plN mo ql q ln fl k) t (plN mo ql q ln fl t) ln fl us = true) : rkC mo od ql q ln fl us t (k + 1) = rkC mo od ql q ln fl us t k + 1 := by
  unfold rkC
  rw [cntP, if_pos (by rw [h1, h3, decide_eq_true h2]; rfl)]
theorem rkC_n {mo od ql : Nat} {q : Nat → Int32} {ln : Nat → Nat} {fl : Nat → Nat → Int32} {us : Nat → Int32} {t k : Nat} (h : (pmO mo ql q (ln k) (fl k)).isSome = false ∨ k = t ∨ cbB od k (plN mo ql q ln fl k) t (plN mo ql q ln fl t) ln fl us = false) : rkC mo od ql q ln fl us t (k + 1) = rkC mo od ql q ln fl us t k + 0 := by
  unfold rkC
  rw [cntP, if_neg (by
    rcases h with h | h | h
    · rw [h]; simp
    · simp [h]
    · rw [h]; simp)]
theorem rk_flip {T mo od ql : Nat} {q : Nat → Int32} {ln : Nat → Nat} {fl : Nat → Nat → Int32} {us : Nat → Int32} (hok : okX T mo od 0 (fun _ => 0) ln fl) : ∀ x y, x < T → y < T → x ≠ y → cbB od x (plN mo ql q ln fl x) y (plN mo ql q ln fl y) ln fl us = !(cbB od y (plN mo ql q ln fl y) x (plN mo ql q ln fl x) ln fl us) := fun _ _ hx hy hne => cb_flip hok hx hy hne
theorem rk_tr {T mo od ql : Nat} {q : Nat → Int32} {ln : Nat → Nat} {fl : Nat → Nat → Int32} {us : Nat → Int32} : ∀ x y z, x < T → y < T → z < T → cbB od x (plN mo ql q ln fl x) y (plN mo ql q ln fl y) ln fl us = true → cbB od y (plN mo ql q ln fl y) z (plN mo ql q ln fl z) ln fl us = true → x ≠ z → cbB od x (plN mo ql q ln fl x) z (plN mo ql q ln fl z) ln fl us = true := fun _ _ _ _ _ _ h1 h2 _ => cb_trans (pl := plN mo ql q ln fl) h1 h2
theorem rk_at {T mo od ql rank t : Nat} {q : Nat → Int32} {ln : Nat → Nat} {fl : Nat → Nat → Int32} {us : Nat → Int32} (hok : okX T mo od 0 (fun _ => 0) ln fl) (ht : t < T) (hs : (pmO mo ql q (ln t) (fl t)).isSome = true) (hc : rkC mo od ql q ln fl us t T = rank) : rank < (rkN T mo od ql q ln fl us T).1 ∧ (rkN T mo od ql q ln fl us T).2 rank = t := by
  obtain ⟨k, h1, h2⟩ := rk_has (B := fun x y => cbB od x ((pmO mo ql q (ln x) (fl x)).getD 0) y ((pmO mo ql q (ln y) (fl y)).getD 0) ln fl us) (pm := fun x => pmO mo ql q (ln x) (fl x)) T t ht hs
  have h3 := rk_rank (pm := fun x => pmO mo ql q (ln x) (fl x)) (rk_flip (ql := ql) (q := q) (us := us) hok) (rk_tr (T := T) (mo := mo) (od := od) (ql := ql) (q := q) (ln := ln) (fl := fl) (us := us)) h1
  have h4 : k = rank := by
    rw [← hc, ← h2]
    exact h3.symm
  subst h4
  exact ⟨h1, h2⟩
theorem rk_no {T mo od ql rank : Nat} {q : Nat → Int32} {ln : Nat → Nat} {fl : Nat → Nat → Int32} {us : Nat → Int32} (hok : okX T mo od 0 (fun _ => 0) ln fl) (h : ∀ x, x < T → (pmO mo ql q (ln x) (fl x)).isSome = true → rkC mo od ql q ln fl us x T ≠ rank) : ¬ rank < (rkN T mo od ql q ln fl us T).1 := by
  intro hr
  have h3 := rk_rank (pm := fun x => pmO mo ql q (ln x) (fl x)) (rk_flip (ql := ql) (q := q) (us := us) hok) (rk_tr (T := T) (mo := mo) (od := od) (ql := ql) (q := q) (ln := ln) (fl := fl) (us := us)) hr
  have h4 := (rkS_in (B := fun x y => cbB od x ((pmO mo ql q (ln x) (fl x)).getD 0) y ((pmO mo ql q (ln y) (fl y)).getD 0) ln fl us) (pm := fun x => pmO mo ql q (ln x) (fl x)) T).2 rank hr
  exact h _ h4.1 h4.2 h3
theorem oN_s {o : Option Nat} (h : o ≠ none) : ∃ p, o = some p := by
  cases o with
  | none => exact absurd rfl h
  | some p => exact ⟨p, rfl⟩
set_option maxRecDepth 100000 in
set_option maxHeartbeats 4000000 in
theorem l_ahead {G : mG} {M : mM} {qa aa mo od : Nat} {Q : Nat → Int32} {al : Nat → Nat} (hQ : M qa = some (300, .inr (0, 9, .inl Q))) (hA : M aa = some (301, .inr (5, 7, .inr (lA al)))) (hQ1 : Q 1 = nI mo) (hQ2 : Q 2 = nI od) (hm : mo < 4) (ho : od < 3) {p pt pu t u : Nat} (ht : t < 6) (hu : u < 6) (hgt : gT (al t)) (hgu : gT (al u)) (hne : ¬ al t = al u) (hp : p = 0 ∨ gP p) (hpt : plT (al t) p mo = some pt) (hpu : plT (al u) p mo = some pu) : CC G iL_ahead 0 0 [.int (nI t), .int (nI u), .long (lN p), .ref qa, .ref aa] M (fun r M1 => r = some (.int (mB (cbB od t pt u pu (lLn al) (lFl al) (lUs Q)))) ∧ M = M1) := by
  refine CC.of rfl (Nat.le_of_ble_eq_true rfl) rfl (fun X C Tr => ?_)
  show V X 0 0 0 [some (.int (nI t)), some (.int (nI u)), some (.long (lN p)), none, some (.ref qa), some (.ref aa), none, none] [] M
  have hp60 : p < 2 ^ 60 := by rcases hp with rfl | hp; (· decide); exact hp.1.lt
  have hpt26 := plT_26 hgt hpt
  have hpu26 := plT_26 hgu hpu
  have hs1 := tS_le (t := al t)
  have hs2 := tS_le (t := al u)
  refine s_aload C 2 dL_ahead_0 rfl rfl ?_
  refine s_iconst C 3 (nI 2) dL_ahead_2 rfl (by decide) ?_
  refine s_iald C 4 dL_ahead_3 rfl hQ (by omega) (by omega) ?_
  rw [hQ2]
  refine s_iconst C 5 (nI 2) dL_ahead_4 rfl (by decide) ?_
  refine s_icmp_neN C 20 8 dL_ahead_5 (by decide) rfl (by omega) (by omega) (fun z5 => ?_) (fun z5 => ?_)
  · skip
    refine s_aload C 22 dL_ahead_20 rfl rfl ?_
    refine s_iconst C 23 (nI 2) dL_ahead_22 rfl (by decide) ?_
    refine s_iald C 24 dL_ahead_23 rfl hQ (by omega) (by omega) ?_
    rw [hQ2]
    refine s_iconst C 25 (nI 1) dL_ahead_24 rfl (by decide) ?_
    refine s_icmp_neN C 64 28 dL_ahead_25 (by decide) rfl (by omega) (by omega) (fun z25 => ?_) (fun z25 => ?_)
    · skip
      have h1 : ¬ (od = 1 ∧ (lUs Q) t ≠ (lUs Q) u) := fun w => z25 w.1
      refine s_aload C 66 dL_ahead_64 rfl rfl ?_
      refine s_iload_n C 67 dL_ahead_66 rfl rfl ?_
      refine s_laldN C 68 dL_ahead_67 rfl hA (by omega) (by omega) ?_
      refine s_lload_n C 69 dL_ahead_68 rfl rfl ?_
      refine s_aload C 71 dL_ahead_69 rfl rfl ?_
      refine s_iconst C 72 (nI 1) dL_ahead_71 rfl (by decide) ?_
      refine s_iald C 73 dL_ahead_72 rfl hQ (by omega) (by omega) ?_
      rw [hQ1]
      refine s_invS C 76 0 0 [] dL_ahead_73 rfl m_L_38 (l_place hgt hm hp60 hp) rfl rfl rfl ⟨by decide, by decide⟩ (Nat.le_of_ble_eq_true rfl) (by omega) (by omega) ?_
      rintro _ M1 ⟨rfl, rfl⟩
      dsimp only [Option.toList, List.cons_append, List.nil_append]
      rw [oJ_s hpt]
      refine s_istore C 78 dL_ahead_76 rfl rfl rfl ?_
      dsimp only [List.set]
      refine s_aload C 80 dL_ahead_78 rfl rfl ?_
      refine s_iload_n C 81 dL_ahead_80 rfl rfl ?_
      refine s_laldN C 82 dL_ahead_81 rfl hA (by omega) (by omega) ?_
      refine s_lload_n C 83 dL_ahead_82 rfl rfl ?_
      refine s_aload C 85 dL_ahead_83 rfl rfl ?_
      refine s_iconst C 86 (nI 1) dL_ahead_85 rfl (by decide) ?_
      refine s_iald C 87 dL_ahead_86 rfl hQ (by omega) (by omega) ?_
      rw [hQ1]
      refine s_invS C 90 0 0 [] dL_ahead_87 rfl m_L_38 (l_place hgu hm hp60 hp) rfl rfl rfl ⟨by decide, by decide⟩ (Nat.le_of_ble_eq_true rfl) (by omega) (by omega) ?_
      rintro _ M2 ⟨rfl, rfl⟩
      dsimp only [Option.toList, List.cons_append, List.nil_append]
      rw [oJ_s hpu]
      refine s_istore C 92 dL_ahead_90 rfl rfl rfl ?_
      dsimp only [List.set]
      refine s_iload C 94 dL_ahead_92 rfl rfl ?_
      refine s_iload C 96 dL_ahead_94 rfl rfl ?_
      refine s_icmp_eqN C 112 99 dL_ahead_96 (by decide) rfl (by omega) (by omega) (fun z96 => ?_) (fun z96 => ?_)
      · skip
        refine s_aload C 114 dL_ahead_112 rfl rfl ?_
        refine s_iload_n C 115 dL_ahead_114 rfl rfl ?_
        refine s_laldN C 116 dL_ahead_115 rfl hA (by omega) (by omega) ?_
        refine s_invS C 119 0 0 [] dL_ahead_116 rfl m_L_18 (l_size (t := al t) (by first | exact hgt.g.lt | exact hgu.g.lt)) rfl rfl rfl ⟨by decide, by decide⟩ (Nat.le_of_ble_eq_true rfl) (by omega) (by omega) ?_
        rintro _ M3 ⟨rfl, rfl⟩
        dsimp only [Option.toList, List.cons_append, List.nil_append]
        refine s_aload C 121 dL_ahead_119 rfl rfl ?_
        refine s_iload_n C 122 dL_ahead_121 rfl rfl ?_
        refine s_laldN C 123 dL_ahead_122 rfl hA (by omega) (by omega) ?_
        refine s_invS C 126 0 0 [.int (nI (tS (al t)))] dL_ahead_123 rfl m_L_18 (l_size (t := al u) (by first | exact hgt.g.lt | exact hgu.g.lt)) rfl rfl rfl ⟨by decide, by decide⟩ (Nat.le_of_ble_eq_true rfl) (by omega) (by omega) ?_
        rintro _ M4 ⟨rfl, rfl⟩
        dsimp only [Option.toList, List.cons_append, List.nil_append]
        refine s_icmp_eqN C 154 129 dL_ahead_126 (by decide) rfl (by omega) (by omega) (fun z126 => ?_) (fun z126 => ?_)
        · skip
          refine s_iload_n C 155 dL_ahead_154 rfl rfl ?_
          refine s_iload_n C 156 dL_ahead_155 rfl rfl ?_
          refine s_icmp_geN C 163 159 dL_ahead_156 (by decide) rfl (by omega) (by omega) (fun z156 => ?_) (fun z156 => ?_)
          · skip
            have hz : cbB od t pt u pu (lLn al) (lFl al) (lUs Q) = false := by unfold cbB; rw [if_neg z5, if_neg h1, if_neg (fun w => w z96), if_neg (fun w => w z126)]; exact decide_eq_false (by omega)
            refine s_iconst C 164 (nI 0) dL_ahead_163 rfl (by decide) ?_
            exact s_zret C dL_ahead_164 Tr rfl (by decide) ⟨rF hz, rfl⟩
          · skip
            have hz : cbB od t pt u pu (lLn al) (lFl al) (lUs Q) = true := by unfold cbB; rw [if_neg z5, if_neg h1, if_neg (fun w => w z96), if_neg (fun w => w z126)]; exact decide_eq_true (by omega)
            refine s_iconst C 160 (nI 1) dL_ahead_159 rfl (by decide) ?_
            refine s_goto C 164 dL_ahead_160 (by decide) ?_
            exact s_zret C dL_ahead_164 Tr rfl (by decide) ⟨rT hz, rfl⟩
        · skip
          refine s_aload C 131 dL_ahead_129 rfl rfl ?_
          refine s_iload_n C 132 dL_ahead_131 rfl rfl ?_
          refine s_laldN C 133 dL_ahead_132 rfl hA (by omega) (by omega) ?_
          refine s_invS C 136 0 0 [] dL_ahead_133 rfl m_L_18 (l_size (t := al t) (by first | exact hgt.g.lt | exact hgu.g.lt)) rfl rfl rfl ⟨by decide, by decide⟩ (Nat.le_of_ble_eq_true rfl) (by omega) (by omega) ?_
          rintro _ M5 ⟨rfl, rfl⟩
          dsimp only [Option.toList, List.cons_append, List.nil_append]
          refine s_aload C 138 dL_ahead_136 rfl rfl ?_
          refine s_iload_n C 139 dL_ahead_138 rfl rfl ?_
          refine s_laldN C 140 dL_ahead_139 rfl hA (by omega) (by omega) ?_
          refine s_invS C 143 0 0 [.int (nI (tS (al t)))] dL_ahead_140 rfl m_L_18 (l_size (t := al u) (by first | exact hgt.g.lt | exact hgu.g.lt)) rfl rfl rfl ⟨by decide, by decide⟩ (Nat.le_of_ble_eq_true rfl) (by omega) (by omega) ?_
          rintro _ M6 ⟨rfl, rfl⟩
          dsimp only [Option.toList, List.cons_append, List.nil_append]
          refine s_icmp_geN C 150 146 dL_ahead_143 (by decide) rfl (by omega) (by omega) (fun z143 => ?_) (fun z143 => ?_)
          · skip
            have hz : cbB od t pt u pu (lLn al) (lFl al) (lUs Q) = false := by unfold cbB; rw [if_neg z5, if_neg h1, if_neg (fun w => w z96), if_pos (show (lLn al) t ≠ (lLn al) u from z126)]; exact decide_eq_false (by show ¬ tS (al t) < tS (al u); omega)
            refine s_iconst C 151 (nI 0) dL_ahead_150 rfl (by decide) ?_
            refine s_goto C 164 dL_ahead_151 (by decide) ?_
            exact s_zret C dL_ahead_164 Tr rfl (by decide) ⟨rF hz, rfl⟩
          · skip
            have hz : cbB od t pt u pu (lLn al) (lFl al) (lUs Q) = true := by unfold cbB; rw [if_neg z5, if_neg h1, if_neg (fun w => w z96), if_pos (show (lLn al) t ≠ (lLn al) u from z126)]; exact decide_eq_true (by show tS (al t) < tS (al u); omega)
            refine s_iconst C 147 (nI 1) dL_ahead_146 rfl (by decide) ?_
            refine s_goto C 164 dL_ahead_147 (by decide) ?_
            exact s_zret C dL_ahead_164 Tr rfl (by decide) ⟨rT hz, rfl⟩
      · skip
        refine s_iload C 101 dL_ahead_99 rfl rfl ?_
        refine s_iload C 103 dL_ahead_101 rfl rfl ?_
        refine s_icmp_geN C 110 106 dL_ahead_103 (by decide) rfl (by omega) (by omega) (fun z103 => ?_) (fun z103 => ?_)
        · skip
          have hz : cbB od t pt u pu (lLn al) (lFl al) (lUs Q) = false := by unfold cbB; rw [if_neg z5, if_neg h1, if_pos z96]; exact decide_eq_false (by omega)
          refine s_iconst C 111 (nI 0) dL_ahead_110 rfl (by decide) ?_
          exact s_zret C dL_ahead_111 Tr rfl (by decide) ⟨rF hz, rfl⟩
        · skip
          have hz : cbB od t pt u pu (lLn al) (lFl al) (lUs Q) = true := by unfold cbB; rw [if_neg z5, if_neg h1, if_pos z96]; exact decide_eq_true (by omega)
          refine s_iconst C 107 (nI 1) dL_ahead_106 rfl (by decide) ?_
          refine s_goto C 111 dL_ahead_107 (by decide) ?_
          exact s_zret C dL_ahead_111 Tr rfl (by decide) ⟨rT hz, rfl⟩
    · skip
      refine s_aload C 30 dL_ahead_28 rfl rfl ?_
      refine s_iconst C 31 (nI 3) dL_ahead_30 rfl (by decide) ?_
      refine s_iload_n C 32 dL_ahead_31 rfl rfl ?_
      refine s_iaddN C 33 dL_ahead_32 rfl ?_
      refine s_iald C 34 dL_ahead_33 rfl hQ (by omega) (by omega) ?_
      refine s_aload C 36 dL_ahead_34 rfl rfl ?_
      refine s_iconst C 37 (nI 3) dL_ahead_36 rfl (by decide) ?_
      refine s_iload_n C 38 dL_ahead_37 rfl rfl ?_
      refine s_iaddN C 39 dL_ahead_38 rfl ?_
      refine s_iald C 40 dL_ahead_39 rfl hQ (by omega) (by omega) ?_
      refine s_icmp_eq C 64 43 dL_ahead_40 (by decide) rfl (fun z40 => ?_) (fun z40 => ?_)
      · skip
        have h1 : ¬ (od = 1 ∧ (lUs Q) t ≠ (lUs Q) u) := fun w => w.2 z40
        refine s_aload C 66 dL_ahead_64 rfl rfl ?_
        refine s_iload_n C 67 dL_ahead_66 rfl rfl ?_
        refine s_laldN C 68 dL_ahead_67 rfl hA (by omega) (by omega) ?_
        refine s_lload_n C 69 dL_ahead_68 rfl rfl ?_
        refine s_aload C 71 dL_ahead_69 rfl rfl ?_
        refine s_iconst C 72 (nI 1) dL_ahead_71 rfl (by decide) ?_
        refine s_iald C 73 dL_ahead_72 rfl hQ (by omega) (by omega) ?_
        rw [hQ1]
        refine s_invS C 76 0 0 [] dL_ahead_73 rfl m_L_38 (l_place hgt hm hp60 hp) rfl rfl rfl ⟨by decide, by decide⟩ (Nat.le_of_ble_eq_true rfl) (by omega) (by omega) ?_
        rintro _ M7 ⟨rfl, rfl⟩
        dsimp only [Option.toList, List.cons_append, List.nil_append]
        rw [oJ_s hpt]
        refine s_istore C 78 dL_ahead_76 rfl rfl rfl ?_
        dsimp only [List.set]
        refine s_aload C 80 dL_ahead_78 rfl rfl ?_
        refine s_iload_n C 81 dL_ahead_80 rfl rfl ?_
        refine s_laldN C 82 dL_ahead_81 rfl hA (by omega) (by omega) ?_
        refine s_lload_n C 83 dL_ahead_82 rfl rfl ?_
        refine s_aload C 85 dL_ahead_83 rfl rfl ?_
        refine s_iconst C 86 (nI 1) dL_ahead_85 rfl (by decide) ?_
        refine s_iald C 87 dL_ahead_86 rfl hQ (by omega) (by omega) ?_
        rw [hQ1]
        refine s_invS C 90 0 0 [] dL_ahead_87 rfl m_L_38 (l_place hgu hm hp60 hp) rfl rfl rfl ⟨by decide, by decide⟩ (Nat.le_of_ble_eq_true rfl) (by omega) (by omega) ?_
        rintro _ M8 ⟨rfl, rfl⟩
        dsimp only [Option.toList, List.cons_append, List.nil_append]
        rw [oJ_s hpu]
        refine s_istore C 92 dL_ahead_90 rfl rfl rfl ?_
        dsimp only [List.set]
        refine s_iload C 94 dL_ahead_92 rfl rfl ?_
        refine s_iload C 96 dL_ahead_94 rfl rfl ?_
        refine s_icmp_eqN C 112 99 dL_ahead_96 (by decide) rfl (by omega) (by omega) (fun z96 => ?_) (fun z96 => ?_)
        · skip
          refine s_aload C 114 dL_ahead_112 rfl rfl ?_
          refine s_iload_n C 115 dL_ahead_114 rfl rfl ?_
          refine s_laldN C 116 dL_ahead_115 rfl hA (by omega) (by omega) ?_
          refine s_invS C 119 0 0 [] dL_ahead_116 rfl m_L_18 (l_size (t := al t) (by first | exact hgt.g.lt | exact hgu.g.lt)) rfl rfl rfl ⟨by decide, by decide⟩ (Nat.le_of_ble_eq_true rfl) (by omega) (by omega) ?_
          rintro _ M9 ⟨rfl, rfl⟩
          dsimp only [Option.toList, List.cons_append, List.nil_append]
          refine s_aload C 121 dL_ahead_119 rfl rfl ?_
          refine s_iload_n C 122 dL_ahead_121 rfl rfl ?_
          refine s_laldN C 123 dL_ahead_122 rfl hA (by omega) (by omega) ?_
          refine s_invS C 126 0 0 [.int (nI (tS (al t)))] dL_ahead_123 rfl m_L_18 (l_size (t := al u) (by first | exact hgt.g.lt | exact hgu.g.lt)) rfl rfl rfl ⟨by decide, by decide⟩ (Nat.le_of_ble_eq_true rfl) (by omega) (by omega) ?_
          rintro _ M10 ⟨rfl, rfl⟩
          dsimp only [Option.toList, List.cons_append, List.nil_append]
          refine s_icmp_eqN C 154 129 dL_ahead_126 (by decide) rfl (by omega) (by omega) (fun z126 => ?_) (fun z126 => ?_)
          · skip
            refine s_iload_n C 155 dL_ahead_154 rfl rfl ?_
            refine s_iload_n C 156 dL_ahead_155 rfl rfl ?_
            refine s_icmp_geN C 163 159 dL_ahead_156 (by decide) rfl (by omega) (by omega) (fun z156 => ?_) (fun z156 => ?_)
            · skip
              have hz : cbB od t pt u pu (lLn al) (lFl al) (lUs Q) = false := by unfold cbB; rw [if_neg z5, if_neg h1, if_neg (fun w => w z96), if_neg (fun w => w z126)]; exact decide_eq_false (by omega)
              refine s_iconst C 164 (nI 0) dL_ahead_163 rfl (by decide) ?_
              exact s_zret C dL_ahead_164 Tr rfl (by decide) ⟨rF hz, rfl⟩
            · skip
              have hz : cbB od t pt u pu (lLn al) (lFl al) (lUs Q) = true := by unfold cbB; rw [if_neg z5, if_neg h1, if_neg (fun w => w z96), if_neg (fun w => w z126)]; exact decide_eq_true (by omega)
              refine s_iconst C 160 (nI 1) dL_ahead_159 rfl (by decide) ?_
              refine s_goto C 164 dL_ahead_160 (by decide) ?_
              exact s_zret C dL_ahead_164 Tr rfl (by decide) ⟨rT hz, rfl⟩
          · skip
            refine s_aload C 131 dL_ahead_129 rfl rfl ?_
            refine s_iload_n C 132 dL_ahead_131 rfl rfl ?_
            refine s_laldN C 133 dL_ahead_132 rfl hA (by omega) (by omega) ?_
            refine s_invS C 136 0 0 [] dL_ahead_133 rfl m_L_18 (l_size (t := al t) (by first | exact hgt.g.lt | exact hgu.g.lt)) rfl rfl rfl ⟨by decide, by decide⟩ (Nat.le_of_ble_eq_true rfl) (by omega) (by omega) ?_
            rintro _ M11 ⟨rfl, rfl⟩
            dsimp only [Option.toList, List.cons_append, List.nil_append]
            refine s_aload C 138 dL_ahead_136 rfl rfl ?_
            refine s_iload_n C 139 dL_ahead_138 rfl rfl ?_
            refine s_laldN C 140 dL_ahead_139 rfl hA (by omega) (by omega) ?_
            refine s_invS C 143 0 0 [.int (nI (tS (al t)))] dL_ahead_140 rfl m_L_18 (l_size (t := al u) (by first | exact hgt.g.lt | exact hgu.g.lt)) rfl rfl rfl ⟨by decide, by decide⟩ (Nat.le_of_ble_eq_true rfl) (by omega) (by omega) ?_
            rintro _ M12 ⟨rfl, rfl⟩
            dsimp only [Option.toList, List.cons_append, List.nil_append]
            refine s_icmp_geN C 150 146 dL_ahead_143 (by decide) rfl (by omega) (by omega) (fun z143 => ?_) (fun z143 => ?_)
            · skip
              have hz : cbB od t pt u pu (lLn al) (lFl al) (lUs Q) = false := by unfold cbB; rw [if_neg z5, if_neg h1, if_neg (fun w => w z96), if_pos (show (lLn al) t ≠ (lLn al) u from z126)]; exact decide_eq_false (by show ¬ tS (al t) < tS (al u); omega)
              refine s_iconst C 151 (nI 0) dL_ahead_150 rfl (by decide) ?_
              refine s_goto C 164 dL_ahead_151 (by decide) ?_
              exact s_zret C dL_ahead_164 Tr rfl (by decide) ⟨rF hz, rfl⟩
            · skip
              have hz : cbB od t pt u pu (lLn al) (lFl al) (lUs Q) = true := by unfold cbB; rw [if_neg z5, if_neg h1, if_neg (fun w => w z96), if_pos (show (lLn al) t ≠ (lLn al) u from z126)]; exact decide_eq_true (by show tS (al t) < tS (al u); omega)
              refine s_iconst C 147 (nI 1) dL_ahead_146 rfl (by decide) ?_
              refine s_goto C 164 dL_ahead_147 (by decide) ?_
              exact s_zret C dL_ahead_164 Tr rfl (by decide) ⟨rT hz, rfl⟩
        · skip
          refine s_iload C 101 dL_ahead_99 rfl rfl ?_
          refine s_iload C 103 dL_ahead_101 rfl rfl ?_
          refine s_icmp_geN C 110 106 dL_ahead_103 (by decide) rfl (by omega) (by omega) (fun z103 => ?_) (fun z103 => ?_)
          · skip
            have hz : cbB od t pt u pu (lLn al) (lFl al) (lUs Q) = false := by unfold cbB; rw [if_neg z5, if_neg h1, if_pos z96]; exact decide_eq_false (by omega)
            refine s_iconst C 111 (nI 0) dL_ahead_110 rfl (by decide) ?_
            exact s_zret C dL_ahead_111 Tr rfl (by decide) ⟨rF hz, rfl⟩
          · skip
            have hz : cbB od t pt u pu (lLn al) (lFl al) (lUs Q) = true := by unfold cbB; rw [if_neg z5, if_neg h1, if_pos z96]; exact decide_eq_true (by omega)
            refine s_iconst C 107 (nI 1) dL_ahead_106 rfl (by decide) ?_
            refine s_goto C 111 dL_ahead_107 (by decide) ?_
            exact s_zret C dL_ahead_111 Tr rfl (by decide) ⟨rT hz, rfl⟩
      · skip
        refine s_aload C 45 dL_ahead_43 rfl rfl ?_
        refine s_iconst C 46 (nI 3) dL_ahead_45 rfl (by decide) ?_
        refine s_iload_n C 47 dL_ahead_46 rfl rfl ?_
        refine s_iaddN C 48 dL_ahead_47 rfl ?_
        refine s_iald C 49 dL_ahead_48 rfl hQ (by omega) (by omega) ?_
        refine s_aload C 51 dL_ahead_49 rfl rfl ?_
        refine s_iconst C 52 (nI 3) dL_ahead_51 rfl (by decide) ?_
        refine s_iload_n C 53 dL_ahead_52 rfl rfl ?_
        refine s_iaddN C 54 dL_ahead_53 rfl ?_
        refine s_iald C 55 dL_ahead_54 rfl hQ (by omega) (by omega) ?_
        refine s_icmp_le C 62 58 dL_ahead_55 (by decide) rfl (fun z55 => ?_) (fun z55 => ?_)
        · skip
          have hz : cbB od t pt u pu (lLn al) (lFl al) (lUs Q) = false := by unfold cbB; rw [if_neg z5, if_pos (show od = 1 ∧ (lUs Q) t ≠ (lUs Q) u from ⟨z25, z40⟩)]; exact decide_eq_false (i32_le.mp z55)
          refine s_iconst C 63 (nI 0) dL_ahead_62 rfl (by decide) ?_
          exact s_zret C dL_ahead_63 Tr rfl (by decide) ⟨rF hz, rfl⟩
        · skip
          have hz : cbB od t pt u pu (lLn al) (lFl al) (lUs Q) = true := by unfold cbB; rw [if_neg z5, if_pos (show od = 1 ∧ (lUs Q) t ≠ (lUs Q) u from ⟨z25, z40⟩)]; exact decide_eq_true (i32_nle.mp z55)
          refine s_iconst C 59 (nI 1) dL_ahead_58 rfl (by decide) ?_
          refine s_goto C 63 dL_ahead_59 (by decide) ?_
          exact s_zret C dL_ahead_63 Tr rfl (by decide) ⟨rT hz, rfl⟩
  · skip
    have hz : cbB od t pt u pu (lLn al) (lFl al) (lUs Q) = nb (tF (al t)) (tF (al u)) (tS (al t)) (tS (al u)) 0 (tS (al t)) := by unfold cbB; rw [if_pos z5]
    refine s_aload C 10 dL_ahead_8 rfl rfl ?_
    refine s_iload_n C 11 dL_ahead_10 rfl rfl ?_
    refine s_laldN C 12 dL_ahead_11 rfl hA (by omega) (by omega) ?_
    refine s_aload C 14 dL_ahead_12 rfl rfl ?_
    refine s_iload_n C 15 dL_ahead_14 rfl rfl ?_
    refine s_laldN C 16 dL_ahead_15 rfl hA (by omega) (by omega) ?_
    refine s_invS C 19 0 0 [] dL_ahead_16 rfl m_L_34 (l_named hgt hgu hne) rfl rfl rfl ⟨by decide, by decide⟩ (Nat.le_of_ble_eq_true rfl) (by omega) (by omega) ?_
    rintro _ M13 ⟨rfl, rfl⟩
    dsimp only [Option.toList, List.cons_append, List.nil_append]
    exact s_zret C dL_ahead_19 Tr rfl (mB_z _) ⟨by rw [hz], rfl⟩

set_option maxRecDepth 100000 in
set_option maxHeartbeats 4000000 in
theorem l_bestK {G : mG} {M : mM} {qa aa T mo od : Nat} {Q : Nat → Int32} {al : Nat → Nat} (hQ : M qa = some (300, .inr (0, 9, .inl Q))) (hA : M aa = some (301, .inr (5, 7, .inr (lA al)))) (hQ1 : Q 1 = nI mo) (hQ2 : Q 2 = nI od) (hm : mo < 4) (ho : od < 3) (hQ0 : Q 0 = nI T) (hT6 : T ≤ 6) (hg : ∀ i, i < T → gT (al i)) {t : Nat} (ht : t < T) : CC G iL_best 0 0 [.int (nI t), .int (nI 1), .ref qa, .ref aa] M (fun r M1 => r = some (.int (bC (bst (pKb T mo (lLn al) (lFl al) t)))) ∧ M = M1) := by
  refine CC.of rfl (Nat.le_of_ble_eq_true rfl) rfl (fun X C Tr => ?_)
  show V X 0 0 0 [some (.int (nI t)), some (.int (nI 1)), some (.ref qa), some (.ref aa), none, none, none, none, none, none, none, none] [] M
  have hgt := hg t ht
  have hV : TV ((lLn al) t) ((lFl al) t) := hgt.V
  have hf60 := tFr_lt (mo := mo) hgt.g
  have h12 := tS_le (t := (tFr (al t) mo))
  have hN : tS (tFr (al t) mo) = srN mo ((lLn al) t) ((lFl al) t) := (tFr_ok hgt hm).2.1
  refine s_aload_n C 1 dL_best_0 rfl rfl ?_
  refine s_iload_n C 2 dL_best_1 rfl rfl ?_
  refine s_laldN C 3 dL_best_2 rfl hA (by omega) (by omega) ?_
  refine s_aload_n C 4 dL_best_3 rfl rfl ?_
  refine s_iconst C 5 (nI 1) dL_best_4 rfl (by decide) ?_
  refine s_iald C 6 dL_best_5 rfl hQ (by omega) (by omega) ?_
  rw [hQ1]
  refine s_invS C 9 0 0 [] dL_best_6 rfl m_L_22 (l_from hgt.g.lt hm) rfl rfl rfl ⟨by decide, by decide⟩ (Nat.le_of_ble_eq_true rfl) (by omega) (by omega) ?_
  rintro _ M1 ⟨rfl, rfl⟩
  dsimp only [Option.toList, List.cons_append, List.nil_append]
  refine s_lstore C 11 dL_best_9 rfl rfl rfl ?_
  dsimp only [List.set]
  refine s_iconst C 12 (nI 1) dL_best_11 rfl (by decide) ?_
  refine s_istore C 14 dL_best_12 rfl rfl rfl ?_
  dsimp only [List.set]
  suffices lp14 : ∀ (fu14 : Nat) (l : Nat), tS (tFr (al t) mo) + 2 - l < fu14 → 1 ≤ l → l ≤ tS (tFr (al t) mo) + 1 → (∀ s2 l2, 0 < l2 → l2 < l → (pKb T mo (lLn al) (lFl al) t) s2 l2 = false) → V X 0 0 14 [some (.int (nI t)), some (.int (nI 1)), some (.ref qa), some (.ref aa), some (.long (lN (tFr (al t) mo))), none, some (.int (nI l)), none, none, none, none, none] [] M from lp14 (tS (tFr (al t) mo) + 2) 1 (by omega) (by omega) (by omega) (fun s2 l2 h1 h2 => by omega)
  intro fu14
  induction fu14 with
  | zero => intro l hl0 hl1 hl2 hno; omega
  | succ fu14 ih14 =>
    intro l hl0 hl1 hl2 hno
    refine s_iload C 16 dL_best_14 rfl rfl ?_
    refine s_lload C 18 dL_best_16 rfl rfl ?_
    refine s_invS C 21 0 0 [.int (nI l)] dL_best_18 rfl m_L_18 (l_size (t := tFr (al t) mo) (by omega)) rfl rfl rfl ⟨by decide, by decide⟩ (Nat.le_of_ble_eq_true rfl) (by omega) (by omega) ?_
    rintro _ M2 ⟨rfl, rfl⟩
    dsimp only [Option.toList, List.cons_append, List.nil_append]
    refine s_icmp_gtN C 160 24 dL_best_21 (by decide) rfl (by omega) (by omega) (fun z21 => ?_) (fun z21 => ?_)
    · skip
      have hbs : bst (pKb T mo (lLn al) (lFl al) t) = (0, 0) := bst_miss (fun s2 l2 => by by_cases e : 0 < l2 ∧ l2 < l; (· exact hno s2 l2 e.1 e.2); exact pKb_big (by rw [← hN]; omega)) (fun s l hp => by have := pcB_b (pKb_c hp) hV; omega)
      refine s_bipush C 162 (-6) dL_best_160 rfl (by decide) ?_
      exact s_iret C dL_best_162 Tr rfl ⟨by unfold bC; rw [hbs]; rfl, rfl⟩
    · skip
      refine s_iconst C 25 (nI 0) dL_best_24 rfl (by decide) ?_
      refine s_istore C 27 dL_best_25 rfl rfl rfl ?_
      dsimp only [List.set]
      suffices lp27 : ∀ (fu27 : Nat) (s : Nat), tS (tFr (al t) mo) + 2 - s < fu27 → s ≤ tS (tFr (al t) mo) + 1 → (∀ s2, s2 < s → (pKb T mo (lLn al) (lFl al) t) s2 l = false) → V X 0 0 27 [some (.int (nI t)), some (.int (nI 1)), some (.ref qa), some (.ref aa), some (.long (lN (tFr (al t) mo))), none, some (.int (nI l)), some (.int (nI s)), none, none, none, none] [] M from lp27 (tS (tFr (al t) mo) + 3) 0 (by omega) (by omega) (fun s2 h2 => by omega)
      intro fu27
      induction fu27 with
      | zero => intro s hs0 hs1 hns; omega
      | succ fu27 ih27 =>
        intro s hs0 hs1 hns
        have hP60 : l ≤ 12 → (tP (tFr (al t) mo) s l mo) < 2 ^ 60 := fun w => tP_lt w
        refine s_iload C 29 dL_best_27 rfl rfl ?_
        refine s_iload C 31 dL_best_29 rfl rfl ?_
        refine s_iaddN C 32 dL_best_31 rfl ?_
        refine s_lload C 34 dL_best_32 rfl rfl ?_
        refine s_invS C 37 0 0 [.int (nI (s + l))] dL_best_34 rfl m_L_18 (l_size (t := tFr (al t) mo) (by omega)) rfl rfl rfl ⟨by decide, by decide⟩ (Nat.le_of_ble_eq_true rfl) (by omega) (by omega) ?_
        rintro _ M3 ⟨rfl, rfl⟩
        dsimp only [Option.toList, List.cons_append, List.nil_append]
        refine s_icmp_gtN C 154 40 dL_best_37 (by decide) rfl (by omega) (by omega) (fun z37 => ?_) (fun z37 => ?_)
        · skip
          refine s_iinc C 157 (nI (l + 1)) dL_best_154 rfl rfl (by rw [← nI_add]; rfl) rfl ?_
          dsimp only [List.set]
          refine s_goto C 14 dL_best_157 (by decide) ?_
          refine V.drop 7 ?_
          dsimp only [List.set]
          exact ih14 (l + 1) (by omega) (by omega) (by omega) (fun s2 l2 h1 h2 => by by_cases e : l2 = l; (· rw [e]; by_cases e2 : s2 < s; (· exact hns s2 e2); exact pKb_big (by rw [← hN]; omega)); exact hno s2 l2 h1 (by omega))
        · skip
          have hl12 : l ≤ 12 := by omega
          have hP60 := hP60 hl12
          refine s_lload C 42 dL_best_40 rfl rfl ?_
          refine s_iload C 44 dL_best_42 rfl rfl ?_
          refine s_iload C 46 dL_best_44 rfl rfl ?_
          refine s_aload_n C 47 dL_best_46 rfl rfl ?_
          refine s_iconst C 48 (nI 1) dL_best_47 rfl (by decide) ?_
          refine s_iald C 49 dL_best_48 rfl hQ (by omega) (by omega) ?_
          rw [hQ1]
          refine s_invS C 52 0 0 [] dL_best_49 rfl m_L_26 (l_piece (f := (tFr (al t) mo)) (s := s) (l := l) (mo := mo) hf60 hl1 hl12 (by omega) hm) rfl rfl rfl ⟨by decide, by decide⟩ (Nat.le_of_ble_eq_true rfl) (by omega) (by omega) ?_
          rintro _ M4 ⟨rfl, rfl⟩
          dsimp only [Option.toList, List.cons_append, List.nil_append]
          refine s_lstore C 54 dL_best_52 rfl rfl rfl ?_
          dsimp only [List.set]
          refine s_lload C 56 dL_best_54 rfl rfl ?_
          refine s_lconst C 57 (lN 0) dL_best_56 rfl rfl ?_
          refine s_lcmp C 58 dL_best_57 rfl ?_
          refine s_if_ne C 64 61 dL_best_58 (by decide) rfl (fun z58 => ?_) (fun z58 => ?_)
          · skip
            have z58 := fun w => z58 ((lcmpN (by omega) (by omega)).mpr w)
            have hpc : tPc (tFr (al t) mo) s l mo := by by_cases w : tPc (tFr (al t) mo) s l mo; (· exact w); exact absurd (tP_n w) z58
            have hpcB : pcB mo (tS (al t)) (tF (al t)) s l = true := (tP_pc hgt hm hl1).mp hpc
            have hgp := (tP_gP hgt hm hl1 hpc).1
            refine s_iconst C 65 (nI 1) dL_best_64 rfl (by decide) ?_
            refine s_istore C 67 dL_best_65 rfl rfl rfl ?_
            dsimp only [List.set]
            refine s_iconst C 68 (nI 0) dL_best_67 rfl (by decide) ?_
            refine s_istore C 70 dL_best_68 rfl rfl rfl ?_
            dsimp only [List.set]
            suffices lp70 : ∀ (fu70 : Nat) (u : Nat) (b : Bool), T - u < fu70 → u ≤ T → b = alP mo (lLn al) (lFl al) t (fun k => srG mo (tS (al t)) (tF (al t)) (s + k)) l u → V X 0 0 70 [some (.int (nI t)), some (.int (nI 1)), some (.ref qa), some (.ref aa), some (.long (lN (tFr (al t) mo))), none, some (.int (nI l)), some (.int (nI s)), some (.long (lN (tP (tFr (al t) mo) s l mo))), none, some (.int (mB b)), some (.int (nI u))] [] M from lp70 (T + 1) 0 true (by omega) (by omega) (by unfold alP; simp)
            intro fu70
            induction fu70 with
            | zero => intro u b hu0 hu hb; omega
            | succ fu70 ih70 =>
              intro u b hu0 hu hb
              refine s_iload C 72 dL_best_70 rfl rfl ?_
              refine s_aload_n C 73 dL_best_72 rfl rfl ?_
              refine s_iconst C 74 (nI 0) dL_best_73 rfl (by decide) ?_
              refine s_iald C 75 dL_best_74 rfl hQ (by omega) (by omega) ?_
              rw [hQ0]
              refine s_icmp_geN C 134 78 dL_best_75 (by decide) rfl (by omega) (by omega) (fun z75 => ?_) (fun z75 => ?_)
              · skip
                have hbT : b = alP mo (lLn al) (lFl al) t (fun k => srG mo (tS (al t)) (tF (al t)) (s + k)) l T := by rw [hb, show u = T by omega]
                refine s_iload C 136 dL_best_134 rfl rfl ?_
                refine s_if_eqB C 148 139 dL_best_136 (by decide) rfl (fun z136 => ?_) (fun z136 => ?_)
                · skip
                  have hz : (pKb T mo (lLn al) (lFl al) t) s l = false := by show (pcB mo (tS (al t)) (tF (al t)) s l && alP mo (lLn al) (lFl al) t (fun k => srG mo (tS (al t)) (tF (al t)) (s + k)) l T) = false; rw [← hbT, z136, Bool.and_false]
                  refine s_iinc C 151 (nI (s + 1)) dL_best_148 rfl rfl (by rw [← nI_add]; rfl) rfl ?_
                  dsimp only [List.set]
                  refine s_goto C 27 dL_best_151 (by decide) ?_
                  refine V.drop 8 ?_
                  dsimp only [List.set]
                  refine V.drop 10 ?_
                  dsimp only [List.set]
                  refine V.drop 11 ?_
                  dsimp only [List.set]
                  exact ih27 (s + 1) (by omega) (by omega) (fun s2 h2 => by by_cases e : s2 = s; (· rw [e]; exact hz); exact hns s2 (by omega))
                · skip
                  have hy : (pKb T mo (lLn al) (lFl al) t) s l = true := by show (pcB mo (tS (al t)) (tF (al t)) s l && alP mo (lLn al) (lFl al) t (fun k => srG mo (tS (al t)) (tF (al t)) (s + k)) l T) = true; rw [← hbT, z136, hpcB]; rfl
                  have hbs : bst (pKb T mo (lLn al) (lFl al) t) = (s, l) := bst_hit hl1 hy hno hns (fun s l hp => by have := pcB_b (pKb_c hp) hV; omega)
                  refine s_bipush C 141 (nI 100) dL_best_139 rfl (by decide) ?_
                  refine s_iload C 143 dL_best_141 rfl rfl ?_
                  refine s_imulN C 144 dL_best_143 rfl ?_
                  refine s_iload C 146 dL_best_144 rfl rfl ?_
                  refine s_iaddN C 147 dL_best_146 rfl ?_
                  exact s_iret C dL_best_147 Tr rfl ⟨by unfold bC; rw [hbs, if_pos (show 0 < l from hl1)], rfl⟩
              · skip
                refine s_iload C 80 dL_best_78 rfl rfl ?_
                refine s_if_eqB C 125 83 dL_best_80 (by decide) rfl (fun z80 => ?_) (fun z80 => ?_)
                · skip
                  have hst : alP mo (lLn al) (lFl al) t (fun k => srG mo (tS (al t)) (tF (al t)) (s + k)) l (u + 1) = false := alP_no (by rw [← hb]; exact z80) (Nat.le_succ u)
                  refine s_iconst C 126 (nI 0) dL_best_125 rfl (by decide) ?_
                  refine s_istore C 128 dL_best_126 rfl rfl rfl ?_
                  dsimp only [List.set]
                  refine s_iinc C 131 (nI (u + 1)) dL_best_128 rfl rfl (by rw [← nI_add]; rfl) rfl ?_
                  dsimp only [List.set]
                  refine s_goto C 70 dL_best_131 (by decide) ?_
                  exact ih70 (u + 1) false (by omega) (by omega) (by rw [hst])
                · skip
                  refine s_iload C 85 dL_best_83 rfl rfl ?_
                  refine s_iload_n C 86 dL_best_85 rfl rfl ?_
                  refine s_icmp_eqN C 121 89 dL_best_86 (by decide) rfl (by omega) (by omega) (fun z86 => ?_) (fun z86 => ?_)
                  · skip
                    have hst : alP mo (lLn al) (lFl al) t (fun k => srG mo (tS (al t)) (tF (al t)) (s + k)) l (u + 1) = true := by rw [alP_step, ← hb, z80, decide_eq_true z86]; rfl
                    refine s_iconst C 122 (nI 1) dL_best_121 rfl (by decide) ?_
                    refine s_goto C 126 dL_best_122 (by decide) ?_
                    refine s_istore C 128 dL_best_126 rfl rfl rfl ?_
                    dsimp only [List.set]
                    refine s_iinc C 131 (nI (u + 1)) dL_best_128 rfl rfl (by rw [← nI_add]; rfl) rfl ?_
                    dsimp only [List.set]
                    refine s_goto C 70 dL_best_131 (by decide) ?_
                    exact ih70 (u + 1) true (by omega) (by omega) (by rw [hst])
                  · skip
                    refine s_aload_n C 90 dL_best_89 rfl rfl ?_
                    refine s_iload C 92 dL_best_90 rfl rfl ?_
                    refine s_laldN C 93 dL_best_92 rfl hA (by omega) (by omega) ?_
                    refine s_lload C 95 dL_best_93 rfl rfl ?_
                    refine s_aload_n C 96 dL_best_95 rfl rfl ?_
                    refine s_iconst C 97 (nI 1) dL_best_96 rfl (by decide) ?_
                    refine s_iald C 98 dL_best_97 rfl hQ (by omega) (by omega) ?_
                    rw [hQ1]
                    have hgu := hg u (by omega)
                    have hPU : plT (al u) (tP (tFr (al t) mo) s l mo) mo = plc mo ((lLn al) u) (1 + cnB ((lFl al) u) ((lLn al) u)) ((lFl al) u) (iniF ((lFl al) u) ((lLn al) u)) (fun k => srG mo (tS (al t)) (tF (al t)) (s + k)) l := plT_pl2 hgt hm hl1 hpc
                    have h26 : ∀ j, plT (al u) (tP (tFr (al t) mo) s l mo) mo = some j → j < 26 := fun j hj => plT_26 hgu hj
                    refine s_invS C 101 0 0 [] dL_best_98 rfl m_L_38 (l_place hgu hm hP60 (Or.inr hgp)) rfl rfl rfl ⟨by decide, by decide⟩ (Nat.le_of_ble_eq_true rfl) (by omega) (by omega) ?_
                    rintro _ M5 ⟨rfl, rfl⟩
                    dsimp only [Option.toList, List.cons_append, List.nil_append]
                    refine s_if_lt C 121 104 dL_best_101 (by decide) rfl (fun z101 => ?_) (fun z101 => ?_)
                    · skip
                      have hnn : plc mo ((lLn al) u) (1 + cnB ((lFl al) u) ((lLn al) u)) ((lFl al) u) (iniF ((lFl al) u) ((lLn al) u)) (fun k => srG mo (tS (al t)) (tF (al t)) (s + k)) l = none := by rw [← hPU]; exact (oJ_lt h26).mp z101
                      have hst : alP mo (lLn al) (lFl al) t (fun k => srG mo (tS (al t)) (tF (al t)) (s + k)) l (u + 1) = true := by rw [alP_step, ← hb, z80, decide_eq_true hnn]; simp
                      refine s_iconst C 122 (nI 1) dL_best_121 rfl (by decide) ?_
                      refine s_goto C 126 dL_best_122 (by decide) ?_
                      refine s_istore C 128 dL_best_126 rfl rfl rfl ?_
                      dsimp only [List.set]
                      refine s_iinc C 131 (nI (u + 1)) dL_best_128 rfl rfl (by rw [← nI_add]; rfl) rfl ?_
                      dsimp only [List.set]
                      refine s_goto C 70 dL_best_131 (by decide) ?_
                      exact ih70 (u + 1) true (by omega) (by omega) (by rw [hst])
                    · skip
                      have hnn : plc mo ((lLn al) u) (1 + cnB ((lFl al) u) ((lLn al) u)) ((lFl al) u) (iniF ((lFl al) u) ((lLn al) u)) (fun k => srG mo (tS (al t)) (tF (al t)) (s + k)) l ≠ none := by rw [← hPU]; exact fun w => z101 ((oJ_lt h26).mpr w)
                      have hst : alP mo (lLn al) (lFl al) t (fun k => srG mo (tS (al t)) (tF (al t)) (s + k)) l (u + 1) = false := by rw [alP_step, decide_eq_false z86, decide_eq_false hnn]; simp
                      refine s_iload_n C 105 dL_best_104 rfl rfl ?_
                      refine s_if_neN C 125 108 dL_best_105 (by decide) rfl (by omega) (fun z105 => ?_) (fun z105 => ?_)
                      · skip
                        refine s_iconst C 126 (nI 0) dL_best_125 rfl (by decide) ?_
                        refine s_istore C 128 dL_best_126 rfl rfl rfl ?_
                        dsimp only [List.set]
                        refine s_iinc C 131 (nI (u + 1)) dL_best_128 rfl rfl (by rw [← nI_add]; rfl) rfl ?_
                        dsimp only [List.set]
                        refine s_goto C 70 dL_best_131 (by decide) ?_
                        exact ih70 (u + 1) false (by omega) (by omega) (by rw [hst])
                      · skip
                        omega
          · skip
            have z58 := (lcmpN (by omega) (by omega)).mp z58
            have hz : (pKb T mo (lLn al) (lFl al) t) s l = false := by
              cases e : (pKb T mo (lLn al) (lFl al) t) s l with
              | false => rfl
              | true =>
                have e2 := pKb_c (T := T) (mo := mo) (t := t) (s := s) (l := l) (ln := (lLn al)) (fl := (lFl al)) e
                exact absurd ((tP_pc hgt hm hl1).mpr e2) ((tP_0 hl1).mp z58)
            refine s_goto C 148 dL_best_61 (by decide) ?_
            refine s_iinc C 151 (nI (s + 1)) dL_best_148 rfl rfl (by rw [← nI_add]; rfl) rfl ?_
            dsimp only [List.set]
            refine s_goto C 27 dL_best_151 (by decide) ?_
            refine V.drop 8 ?_
            dsimp only [List.set]
            exact ih27 (s + 1) (by omega) (by omega) (fun s2 h2 => by by_cases e : s2 = s; (· rw [e]; exact hz); exact hns s2 (by omega))

set_option maxRecDepth 100000 in
set_option maxHeartbeats 4000000 in
theorem l_bestS {G : mG} {M : mM} {qa aa T mo od : Nat} {Q : Nat → Int32} {al : Nat → Nat} (hQ : M qa = some (300, .inr (0, 9, .inl Q))) (hA : M aa = some (301, .inr (5, 7, .inr (lA al)))) (hQ1 : Q 1 = nI mo) (hQ2 : Q 2 = nI od) (hm : mo < 4) (ho : od < 3) (hQ0 : Q 0 = nI T) (hT6 : T ≤ 6) (hg : ∀ i, i < T → gT (al i)) (hne : ∀ i j, i < T → j < T → i ≠ j → ¬ al i = al j) (hok : okX T mo od 0 (fun _ => 0) (lLn al) (lFl al)) {t : Nat} (ht : t < T) : CC G iL_best 0 0 [.int (nI t), .int (nI 0), .ref qa, .ref aa] M (fun r M1 => r = some (.int (bC (bst (pSb T mo od (lLn al) (lFl al) (lUs Q) t)))) ∧ M = M1) := by
  refine CC.of rfl (Nat.le_of_ble_eq_true rfl) rfl (fun X C Tr => ?_)
  show V X 0 0 0 [some (.int (nI t)), some (.int (nI 0)), some (.ref qa), some (.ref aa), none, none, none, none, none, none, none, none] [] M
  have hgt := hg t ht
  have hV : TV ((lLn al) t) ((lFl al) t) := hgt.V
  have hf60 := tFr_lt (mo := mo) hgt.g
  have h12 := tS_le (t := (tFr (al t) mo))
  have hN : tS (tFr (al t) mo) = srN mo ((lLn al) t) ((lFl al) t) := (tFr_ok hgt hm).2.1
  refine s_aload_n C 1 dL_best_0 rfl rfl ?_
  refine s_iload_n C 2 dL_best_1 rfl rfl ?_
  refine s_laldN C 3 dL_best_2 rfl hA (by omega) (by omega) ?_
  refine s_aload_n C 4 dL_best_3 rfl rfl ?_
  refine s_iconst C 5 (nI 1) dL_best_4 rfl (by decide) ?_
  refine s_iald C 6 dL_best_5 rfl hQ (by omega) (by omega) ?_
  rw [hQ1]
  refine s_invS C 9 0 0 [] dL_best_6 rfl m_L_22 (l_from hgt.g.lt hm) rfl rfl rfl ⟨by decide, by decide⟩ (Nat.le_of_ble_eq_true rfl) (by omega) (by omega) ?_
  rintro _ M1 ⟨rfl, rfl⟩
  dsimp only [Option.toList, List.cons_append, List.nil_append]
  refine s_lstore C 11 dL_best_9 rfl rfl rfl ?_
  dsimp only [List.set]
  refine s_iconst C 12 (nI 1) dL_best_11 rfl (by decide) ?_
  refine s_istore C 14 dL_best_12 rfl rfl rfl ?_
  dsimp only [List.set]
  suffices lp14 : ∀ (fu14 : Nat) (l : Nat), tS (tFr (al t) mo) + 2 - l < fu14 → 1 ≤ l → l ≤ tS (tFr (al t) mo) + 1 → (∀ s2 l2, 0 < l2 → l2 < l → (pSb T mo od (lLn al) (lFl al) (lUs Q) t) s2 l2 = false) → V X 0 0 14 [some (.int (nI t)), some (.int (nI 0)), some (.ref qa), some (.ref aa), some (.long (lN (tFr (al t) mo))), none, some (.int (nI l)), none, none, none, none, none] [] M from lp14 (tS (tFr (al t) mo) + 2) 1 (by omega) (by omega) (by omega) (fun s2 l2 h1 h2 => by omega)
  intro fu14
  induction fu14 with
  | zero => intro l hl0 hl1 hl2 hno; omega
  | succ fu14 ih14 =>
    intro l hl0 hl1 hl2 hno
    refine s_iload C 16 dL_best_14 rfl rfl ?_
    refine s_lload C 18 dL_best_16 rfl rfl ?_
    refine s_invS C 21 0 0 [.int (nI l)] dL_best_18 rfl m_L_18 (l_size (t := tFr (al t) mo) (by omega)) rfl rfl rfl ⟨by decide, by decide⟩ (Nat.le_of_ble_eq_true rfl) (by omega) (by omega) ?_
    rintro _ M2 ⟨rfl, rfl⟩
    dsimp only [Option.toList, List.cons_append, List.nil_append]
    refine s_icmp_gtN C 160 24 dL_best_21 (by decide) rfl (by omega) (by omega) (fun z21 => ?_) (fun z21 => ?_)
    · skip
      have hbs : bst (pSb T mo od (lLn al) (lFl al) (lUs Q) t) = (0, 0) := bst_miss (fun s2 l2 => by by_cases e : 0 < l2 ∧ l2 < l; (· exact hno s2 l2 e.1 e.2); exact pSb_big (by rw [← hN]; omega)) (fun s l hp => by have := pcB_b (pSb_c hp) hV; omega)
      refine s_bipush C 162 (-6) dL_best_160 rfl (by decide) ?_
      exact s_iret C dL_best_162 Tr rfl ⟨by unfold bC; rw [hbs]; rfl, rfl⟩
    · skip
      refine s_iconst C 25 (nI 0) dL_best_24 rfl (by decide) ?_
      refine s_istore C 27 dL_best_25 rfl rfl rfl ?_
      dsimp only [List.set]
      suffices lp27 : ∀ (fu27 : Nat) (s : Nat), tS (tFr (al t) mo) + 2 - s < fu27 → s ≤ tS (tFr (al t) mo) + 1 → (∀ s2, s2 < s → (pSb T mo od (lLn al) (lFl al) (lUs Q) t) s2 l = false) → V X 0 0 27 [some (.int (nI t)), some (.int (nI 0)), some (.ref qa), some (.ref aa), some (.long (lN (tFr (al t) mo))), none, some (.int (nI l)), some (.int (nI s)), none, none, none, none] [] M from lp27 (tS (tFr (al t) mo) + 3) 0 (by omega) (by omega) (fun s2 h2 => by omega)
      intro fu27
      induction fu27 with
      | zero => intro s hs0 hs1 hns; omega
      | succ fu27 ih27 =>
        intro s hs0 hs1 hns
        have hP60 : l ≤ 12 → (tP (tFr (al t) mo) s l mo) < 2 ^ 60 := fun w => tP_lt w
        refine s_iload C 29 dL_best_27 rfl rfl ?_
        refine s_iload C 31 dL_best_29 rfl rfl ?_
        refine s_iaddN C 32 dL_best_31 rfl ?_
        refine s_lload C 34 dL_best_32 rfl rfl ?_
        refine s_invS C 37 0 0 [.int (nI (s + l))] dL_best_34 rfl m_L_18 (l_size (t := tFr (al t) mo) (by omega)) rfl rfl rfl ⟨by decide, by decide⟩ (Nat.le_of_ble_eq_true rfl) (by omega) (by omega) ?_
        rintro _ M3 ⟨rfl, rfl⟩
        dsimp only [Option.toList, List.cons_append, List.nil_append]
        refine s_icmp_gtN C 154 40 dL_best_37 (by decide) rfl (by omega) (by omega) (fun z37 => ?_) (fun z37 => ?_)
        · skip
          refine s_iinc C 157 (nI (l + 1)) dL_best_154 rfl rfl (by rw [← nI_add]; rfl) rfl ?_
          dsimp only [List.set]
          refine s_goto C 14 dL_best_157 (by decide) ?_
          refine V.drop 7 ?_
          dsimp only [List.set]
          exact ih14 (l + 1) (by omega) (by omega) (by omega) (fun s2 l2 h1 h2 => by by_cases e : l2 = l; (· rw [e]; by_cases e2 : s2 < s; (· exact hns s2 e2); exact pSb_big (by rw [← hN]; omega)); exact hno s2 l2 h1 (by omega))
        · skip
          have hl12 : l ≤ 12 := by omega
          have hP60 := hP60 hl12
          refine s_lload C 42 dL_best_40 rfl rfl ?_
          refine s_iload C 44 dL_best_42 rfl rfl ?_
          refine s_iload C 46 dL_best_44 rfl rfl ?_
          refine s_aload_n C 47 dL_best_46 rfl rfl ?_
          refine s_iconst C 48 (nI 1) dL_best_47 rfl (by decide) ?_
          refine s_iald C 49 dL_best_48 rfl hQ (by omega) (by omega) ?_
          rw [hQ1]
          refine s_invS C 52 0 0 [] dL_best_49 rfl m_L_26 (l_piece (f := (tFr (al t) mo)) (s := s) (l := l) (mo := mo) hf60 hl1 hl12 (by omega) hm) rfl rfl rfl ⟨by decide, by decide⟩ (Nat.le_of_ble_eq_true rfl) (by omega) (by omega) ?_
          rintro _ M4 ⟨rfl, rfl⟩
          dsimp only [Option.toList, List.cons_append, List.nil_append]
          refine s_lstore C 54 dL_best_52 rfl rfl rfl ?_
          dsimp only [List.set]
          refine s_lload C 56 dL_best_54 rfl rfl ?_
          refine s_lconst C 57 (lN 0) dL_best_56 rfl rfl ?_
          refine s_lcmp C 58 dL_best_57 rfl ?_
          refine s_if_ne C 64 61 dL_best_58 (by decide) rfl (fun z58 => ?_) (fun z58 => ?_)
          · skip
            have z58 := fun w => z58 ((lcmpN (by omega) (by omega)).mpr w)
            have hpc : tPc (tFr (al t) mo) s l mo := by by_cases w : tPc (tFr (al t) mo) s l mo; (· exact w); exact absurd (tP_n w) z58
            have hpcB : pcB mo (tS (al t)) (tF (al t)) s l = true := (tP_pc hgt hm hl1).mp hpc
            have hgp := (tP_gP hgt hm hl1 hpc).1
            obtain ⟨pt, hpt, -⟩ := pl2_own (ln := (lLn al)) (fl := (lFl al)) (t := t) hpcB
            have hpt2 : plT (al t) (tP (tFr (al t) mo) s l mo) mo = some pt := (plT_pl2 hgt hm hl1 hpc).trans hpt
            refine s_iconst C 65 (nI 1) dL_best_64 rfl (by decide) ?_
            refine s_istore C 67 dL_best_65 rfl rfl rfl ?_
            dsimp only [List.set]
            refine s_iconst C 68 (nI 0) dL_best_67 rfl (by decide) ?_
            refine s_istore C 70 dL_best_68 rfl rfl rfl ?_
            dsimp only [List.set]
            suffices lp70 : ∀ (fu70 : Nat) (u : Nat) (b : Bool), T - u < fu70 → u ≤ T → b = fiP mo od (lLn al) (lFl al) (lUs Q) t pt (fun k => srG mo (tS (al t)) (tF (al t)) (s + k)) l u → V X 0 0 70 [some (.int (nI t)), some (.int (nI 0)), some (.ref qa), some (.ref aa), some (.long (lN (tFr (al t) mo))), none, some (.int (nI l)), some (.int (nI s)), some (.long (lN (tP (tFr (al t) mo) s l mo))), none, some (.int (mB b)), some (.int (nI u))] [] M from lp70 (T + 1) 0 true (by omega) (by omega) (by unfold fiP; simp)
            intro fu70
            induction fu70 with
            | zero => intro u b hu0 hu hb; omega
            | succ fu70 ih70 =>
              intro u b hu0 hu hb
              refine s_iload C 72 dL_best_70 rfl rfl ?_
              refine s_aload_n C 73 dL_best_72 rfl rfl ?_
              refine s_iconst C 74 (nI 0) dL_best_73 rfl (by decide) ?_
              refine s_iald C 75 dL_best_74 rfl hQ (by omega) (by omega) ?_
              rw [hQ0]
              refine s_icmp_geN C 134 78 dL_best_75 (by decide) rfl (by omega) (by omega) (fun z75 => ?_) (fun z75 => ?_)
              · skip
                have hbT : b = fiP mo od (lLn al) (lFl al) (lUs Q) t pt (fun k => srG mo (tS (al t)) (tF (al t)) (s + k)) l T := by rw [hb, show u = T by omega]
                refine s_iload C 136 dL_best_134 rfl rfl ?_
                refine s_if_eqB C 148 139 dL_best_136 (by decide) rfl (fun z136 => ?_) (fun z136 => ?_)
                · skip
                  have hz : (pSb T mo od (lLn al) (lFl al) (lUs Q) t) s l = false := by show (pcB mo (tS (al t)) (tF (al t)) s l && firB T mo od (lLn al) (lFl al) (lUs Q) t s l) = false; rw [← fiP_fir hok ht hpt, ← hbT, z136, Bool.and_false]
                  refine s_iinc C 151 (nI (s + 1)) dL_best_148 rfl rfl (by rw [← nI_add]; rfl) rfl ?_
                  dsimp only [List.set]
                  refine s_goto C 27 dL_best_151 (by decide) ?_
                  refine V.drop 8 ?_
                  dsimp only [List.set]
                  refine V.drop 10 ?_
                  dsimp only [List.set]
                  refine V.drop 11 ?_
                  dsimp only [List.set]
                  exact ih27 (s + 1) (by omega) (by omega) (fun s2 h2 => by by_cases e : s2 = s; (· rw [e]; exact hz); exact hns s2 (by omega))
                · skip
                  have hy : (pSb T mo od (lLn al) (lFl al) (lUs Q) t) s l = true := by show (pcB mo (tS (al t)) (tF (al t)) s l && firB T mo od (lLn al) (lFl al) (lUs Q) t s l) = true; rw [← fiP_fir hok ht hpt, ← hbT, z136, hpcB]; rfl
                  have hbs : bst (pSb T mo od (lLn al) (lFl al) (lUs Q) t) = (s, l) := bst_hit hl1 hy hno hns (fun s l hp => by have := pcB_b (pSb_c hp) hV; omega)
                  refine s_bipush C 141 (nI 100) dL_best_139 rfl (by decide) ?_
                  refine s_iload C 143 dL_best_141 rfl rfl ?_
                  refine s_imulN C 144 dL_best_143 rfl ?_
                  refine s_iload C 146 dL_best_144 rfl rfl ?_
                  refine s_iaddN C 147 dL_best_146 rfl ?_
                  exact s_iret C dL_best_147 Tr rfl ⟨by unfold bC; rw [hbs, if_pos (show 0 < l from hl1)], rfl⟩
              · skip
                refine s_iload C 80 dL_best_78 rfl rfl ?_
                refine s_if_eqB C 125 83 dL_best_80 (by decide) rfl (fun z80 => ?_) (fun z80 => ?_)
                · skip
                  have hst : fiP mo od (lLn al) (lFl al) (lUs Q) t pt (fun k => srG mo (tS (al t)) (tF (al t)) (s + k)) l (u + 1) = false := fiP_no (by rw [← hb]; exact z80) (Nat.le_succ u)
                  refine s_iconst C 126 (nI 0) dL_best_125 rfl (by decide) ?_
                  refine s_istore C 128 dL_best_126 rfl rfl rfl ?_
                  dsimp only [List.set]
                  refine s_iinc C 131 (nI (u + 1)) dL_best_128 rfl rfl (by rw [← nI_add]; rfl) rfl ?_
                  dsimp only [List.set]
                  refine s_goto C 70 dL_best_131 (by decide) ?_
                  exact ih70 (u + 1) false (by omega) (by omega) (by rw [hst])
                · skip
                  refine s_iload C 85 dL_best_83 rfl rfl ?_
                  refine s_iload_n C 86 dL_best_85 rfl rfl ?_
                  refine s_icmp_eqN C 121 89 dL_best_86 (by decide) rfl (by omega) (by omega) (fun z86 => ?_) (fun z86 => ?_)
                  · skip
                    have hst : fiP mo od (lLn al) (lFl al) (lUs Q) t pt (fun k => srG mo (tS (al t)) (tF (al t)) (s + k)) l (u + 1) = true := by rw [fiP_skip (Or.inl z86), ← hb]; exact z80
                    refine s_iconst C 122 (nI 1) dL_best_121 rfl (by decide) ?_
                    refine s_goto C 126 dL_best_122 (by decide) ?_
                    refine s_istore C 128 dL_best_126 rfl rfl rfl ?_
                    dsimp only [List.set]
                    refine s_iinc C 131 (nI (u + 1)) dL_best_128 rfl rfl (by rw [← nI_add]; rfl) rfl ?_
                    dsimp only [List.set]
                    refine s_goto C 70 dL_best_131 (by decide) ?_
                    exact ih70 (u + 1) true (by omega) (by omega) (by rw [hst])
                  · skip
                    refine s_aload_n C 90 dL_best_89 rfl rfl ?_
                    refine s_iload C 92 dL_best_90 rfl rfl ?_
                    refine s_laldN C 93 dL_best_92 rfl hA (by omega) (by omega) ?_
                    refine s_lload C 95 dL_best_93 rfl rfl ?_
                    refine s_aload_n C 96 dL_best_95 rfl rfl ?_
                    refine s_iconst C 97 (nI 1) dL_best_96 rfl (by decide) ?_
                    refine s_iald C 98 dL_best_97 rfl hQ (by omega) (by omega) ?_
                    rw [hQ1]
                    have hgu := hg u (by omega)
                    have hPU : plT (al u) (tP (tFr (al t) mo) s l mo) mo = plc mo ((lLn al) u) (1 + cnB ((lFl al) u) ((lLn al) u)) ((lFl al) u) (iniF ((lFl al) u) ((lLn al) u)) (fun k => srG mo (tS (al t)) (tF (al t)) (s + k)) l := plT_pl2 hgt hm hl1 hpc
                    have h26 : ∀ j, plT (al u) (tP (tFr (al t) mo) s l mo) mo = some j → j < 26 := fun j hj => plT_26 hgu hj
                    refine s_invS C 101 0 0 [] dL_best_98 rfl m_L_38 (l_place hgu hm hP60 (Or.inr hgp)) rfl rfl rfl ⟨by decide, by decide⟩ (Nat.le_of_ble_eq_true rfl) (by omega) (by omega) ?_
                    rintro _ M5 ⟨rfl, rfl⟩
                    dsimp only [Option.toList, List.cons_append, List.nil_append]
                    refine s_if_lt C 121 104 dL_best_101 (by decide) rfl (fun z101 => ?_) (fun z101 => ?_)
                    · skip
                      have hnn : plc mo ((lLn al) u) (1 + cnB ((lFl al) u) ((lLn al) u)) ((lFl al) u) (iniF ((lFl al) u) ((lLn al) u)) (fun k => srG mo (tS (al t)) (tF (al t)) (s + k)) l = none := by rw [← hPU]; exact (oJ_lt h26).mp z101
                      have hst : fiP mo od (lLn al) (lFl al) (lUs Q) t pt (fun k => srG mo (tS (al t)) (tF (al t)) (s + k)) l (u + 1) = true := by rw [fiP_skip (Or.inr hnn), ← hb]; exact z80
                      refine s_iconst C 122 (nI 1) dL_best_121 rfl (by decide) ?_
                      refine s_goto C 126 dL_best_122 (by decide) ?_
                      refine s_istore C 128 dL_best_126 rfl rfl rfl ?_
                      dsimp only [List.set]
                      refine s_iinc C 131 (nI (u + 1)) dL_best_128 rfl rfl (by rw [← nI_add]; rfl) rfl ?_
                      dsimp only [List.set]
                      refine s_goto C 70 dL_best_131 (by decide) ?_
                      exact ih70 (u + 1) true (by omega) (by omega) (by rw [hst])
                    · skip
                      have hnn : plc mo ((lLn al) u) (1 + cnB ((lFl al) u) ((lLn al) u)) ((lFl al) u) (iniF ((lFl al) u) ((lLn al) u)) (fun k => srG mo (tS (al t)) (tF (al t)) (s + k)) l ≠ none := by rw [← hPU]; exact fun w => z101 ((oJ_lt h26).mpr w)
                      obtain ⟨pu, hpu⟩ := oN_s hnn
                      have hpu2 : plT (al u) (tP (tFr (al t) mo) s l mo) mo = some pu := hPU.trans hpu
                      refine s_iload_n C 105 dL_best_104 rfl rfl ?_
                      refine s_if_neN C 125 108 dL_best_105 (by decide) rfl (by omega) (fun z105 => ?_) (fun z105 => ?_)
                      · skip
                        omega
                      · skip
                        refine s_iload_n C 109 dL_best_108 rfl rfl ?_
                        refine s_iload C 111 dL_best_109 rfl rfl ?_
                        refine s_lload C 113 dL_best_111 rfl rfl ?_
                        refine s_aload_n C 114 dL_best_113 rfl rfl ?_
                        refine s_aload_n C 115 dL_best_114 rfl rfl ?_
                        refine s_invS C 118 0 0 [] dL_best_115 rfl m_L_42 (l_ahead hQ hA hQ1 hQ2 hm ho (by omega) (by omega) hgt hgu (hne t u ht (by omega) (fun e => z86 e.symm)) (Or.inr hgp) hpt2 hpu2) rfl rfl rfl ⟨by decide, by decide⟩ (Nat.le_of_ble_eq_true rfl) (by omega) (by omega) ?_
                        rintro _ M6 ⟨rfl, rfl⟩
                        dsimp only [Option.toList, List.cons_append, List.nil_append]
                        refine s_if_eqB C 125 121 dL_best_118 (by decide) rfl (fun z118 => ?_) (fun z118 => ?_)
                        · skip
                          have hst : fiP mo od (lLn al) (lFl al) (lUs Q) t pt (fun k => srG mo (tS (al t)) (tF (al t)) (s + k)) l (u + 1) = false := by rw [fiP_one z86 hpu, ← hb, z80, z118]; rfl
                          refine s_iconst C 126 (nI 0) dL_best_125 rfl (by decide) ?_
                          refine s_istore C 128 dL_best_126 rfl rfl rfl ?_
                          dsimp only [List.set]
                          refine s_iinc C 131 (nI (u + 1)) dL_best_128 rfl rfl (by rw [← nI_add]; rfl) rfl ?_
                          dsimp only [List.set]
                          refine s_goto C 70 dL_best_131 (by decide) ?_
                          exact ih70 (u + 1) false (by omega) (by omega) (by rw [hst])
                        · skip
                          have hst : fiP mo od (lLn al) (lFl al) (lUs Q) t pt (fun k => srG mo (tS (al t)) (tF (al t)) (s + k)) l (u + 1) = true := by rw [fiP_one z86 hpu, ← hb, z80, z118]; rfl
                          refine s_iconst C 122 (nI 1) dL_best_121 rfl (by decide) ?_
                          refine s_goto C 126 dL_best_122 (by decide) ?_
                          refine s_istore C 128 dL_best_126 rfl rfl rfl ?_
                          dsimp only [List.set]
                          refine s_iinc C 131 (nI (u + 1)) dL_best_128 rfl rfl (by rw [← nI_add]; rfl) rfl ?_
                          dsimp only [List.set]
                          refine s_goto C 70 dL_best_131 (by decide) ?_
                          exact ih70 (u + 1) true (by omega) (by omega) (by rw [hst])
          · skip
            have z58 := (lcmpN (by omega) (by omega)).mp z58
            have hz : (pSb T mo od (lLn al) (lFl al) (lUs Q) t) s l = false := by
              cases e : (pSb T mo od (lLn al) (lFl al) (lUs Q) t) s l with
              | false => rfl
              | true =>
                have e2 := pSb_c (T := T) (mo := mo) (t := t) (s := s) (l := l) (ln := (lLn al)) (fl := (lFl al)) (od := od) (us := (lUs Q)) e
                exact absurd ((tP_pc hgt hm hl1).mpr e2) ((tP_0 hl1).mp z58)
            refine s_goto C 148 dL_best_61 (by decide) ?_
            refine s_iinc C 151 (nI (s + 1)) dL_best_148 rfl rfl (by rw [← nI_add]; rfl) rfl ?_
            dsimp only [List.set]
            refine s_goto C 27 dL_best_151 (by decide) ?_
            refine V.drop 8 ?_
            dsimp only [List.set]
            exact ih27 (s + 1) (by omega) (by omega) (fun s2 h2 => by by_cases e : s2 = s; (· rw [e]; exact hz); exact hns s2 (by omega))

set_option maxRecDepth 100000 in
set_option maxHeartbeats 4000000 in
theorem l_ranked {G : mG} {M : mM} {qa aa T mo od : Nat} {Q : Nat → Int32} {al : Nat → Nat} (hQ : M qa = some (300, .inr (0, 9, .inl Q))) (hA : M aa = some (301, .inr (5, 7, .inr (lA al)))) (hQ1 : Q 1 = nI mo) (hQ2 : Q 2 = nI od) (hm : mo < 4) (ho : od < 3) (hQ0 : Q 0 = nI T) (hT6 : T ≤ 6) (hg : ∀ i, i < T → gT (al i)) (hne : ∀ i j, i < T → j < T → i ≠ j → ¬ al i = al j) (hok : okX T mo od 0 (fun _ => 0) (lLn al) (lFl al)) {rank q : Nat} (hr : rank < 1000) (hq : gQ q) : CC G iL_ranked 0 0 [.int (nI rank), .long (lN q), .ref qa, .ref aa] M (fun r M1 => r = some (.int (if rank < (rkN T mo od (tS q) (tF q) (lLn al) (lFl al) (lUs Q) T).1 then nI ((rkN T mo od (tS q) (tF q) (lLn al) (lFl al) (lUs Q) T).2 rank) else -1)) ∧ M = M1) := by
  refine CC.of rfl (Nat.le_of_ble_eq_true rfl) rfl (fun X C Tr => ?_)
  show V X 0 0 0 [some (.int (nI rank)), some (.long (lN q)), none, some (.ref qa), some (.ref aa), none, none, none, none, none] [] M
  have hck := tCut_ok hq
  have hc60 := hck.1.lt
  have hcp := hck.2.1
  refine s_lload_n C 1 dL_ranked_0 rfl rfl ?_
  refine s_invS C 4 0 0 [] dL_ranked_1 rfl m_L_48 (l_cut hq.1.lt) rfl rfl rfl ⟨by decide, by decide⟩ (Nat.le_of_ble_eq_true rfl) (by omega) (by omega) ?_
  rintro _ M1 ⟨rfl, rfl⟩
  dsimp only [Option.toList, List.cons_append, List.nil_append]
  refine s_lstore C 6 dL_ranked_4 rfl rfl rfl ?_
  dsimp only [List.set]
  refine s_iconst C 7 (nI 0) dL_ranked_6 rfl (by decide) ?_
  refine s_istore C 9 dL_ranked_7 rfl rfl rfl ?_
  dsimp only [List.set]
  suffices lp9 : ∀ (fu9 : Nat) (t : Nat), T - t < fu9 → t ≤ T → (∀ x, x < t → (pmO mo (tS q) (tF q) ((lLn al) x) ((lFl al) x)).isSome = true → rkC mo od (tS q) (tF q) (lLn al) (lFl al) (lUs Q) x T ≠ rank) → V X 0 0 9 [some (.int (nI rank)), some (.long (lN q)), none, some (.ref qa), some (.ref aa), some (.long (lN (tCut q))), none, some (.int (nI t)), none, none] [] M from lp9 (T + 1) 0 (by omega) (by omega) (fun x hx => by omega)
  intro fu9
  induction fu9 with
  | zero => intro t ht0 ht hno; omega
  | succ fu9 ih9 =>
    intro t ht0 ht hno
    refine s_iload C 11 dL_ranked_9 rfl rfl ?_
    refine s_aload_n C 12 dL_ranked_11 rfl rfl ?_
    refine s_iconst C 13 (nI 0) dL_ranked_12 rfl (by decide) ?_
    refine s_iald C 14 dL_ranked_13 rfl hQ (by omega) (by omega) ?_
    rw [hQ0]
    refine s_icmp_geN C 119 17 dL_ranked_14 (by decide) rfl (by omega) (by omega) (fun z14 => ?_) (fun z14 => ?_)
    · skip
      have hz : (if rank < (rkN T mo od (tS q) (tF q) (lLn al) (lFl al) (lUs Q) T).1 then nI ((rkN T mo od (tS q) (tF q) (lLn al) (lFl al) (lUs Q) T).2 rank) else -1) = -1 := if_neg (rk_no hok (fun x hx hs => hno x (by omega) hs))
      refine s_iconst C 120 (-1) dL_ranked_119 rfl (by decide) ?_
      exact s_iret C dL_ranked_120 Tr rfl ⟨by rw [hz], rfl⟩
    · skip
      refine s_aload C 19 dL_ranked_17 rfl rfl ?_
      refine s_iload C 21 dL_ranked_19 rfl rfl ?_
      refine s_laldN C 22 dL_ranked_21 rfl hA (by omega) (by omega) ?_
      refine s_lload C 24 dL_ranked_22 rfl rfl ?_
      refine s_aload_n C 25 dL_ranked_24 rfl rfl ?_
      refine s_iconst C 26 (nI 1) dL_ranked_25 rfl (by decide) ?_
      refine s_iald C 27 dL_ranked_26 rfl hQ (by omega) (by omega) ?_
      rw [hQ1]
      have hgt := hg t (by omega)
      have hct : plT (al t) (tCut q) mo = pmO mo (tS q) (tF q) ((lLn al) t) ((lFl al) t) := plT_cut hq
      have h26t : ∀ j, pmO mo (tS q) (tF q) ((lLn al) t) ((lFl al) t) = some j → j < 26 := fun j hj => plT_26 hgt (hct.trans hj)
      refine s_invS C 30 0 0 [] dL_ranked_27 rfl m_L_38 (l_place hgt hm hc60 hcp) rfl rfl rfl ⟨by decide, by decide⟩ (Nat.le_of_ble_eq_true rfl) (by omega) (by omega) ?_
      rintro _ M2 ⟨rfl, rfl⟩
      dsimp only [Option.toList, List.cons_append, List.nil_append]
      rw [hct]
      refine s_if_ge C 36 33 dL_ranked_30 (by decide) rfl (fun z30 => ?_) (fun z30 => ?_)
      · skip
        obtain ⟨pt, hpt⟩ := oN_s (o := pmO mo (tS q) (tF q) ((lLn al) t) ((lFl al) t)) ((oJ_ge h26t).mp z30)
        have hst : (pmO mo (tS q) (tF q) ((lLn al) t) ((lFl al) t)).isSome = true := by rw [hpt]; rfl
        have hppt : plT (al t) (tCut q) mo = some (plN mo (tS q) (tF q) (lLn al) (lFl al) t) := by rw [hct]; unfold plN; rw [hpt]; rfl
        refine s_iconst C 37 (nI 0) dL_ranked_36 rfl (by decide) ?_
        refine s_istore C 39 dL_ranked_37 rfl rfl rfl ?_
        dsimp only [List.set]
        refine s_iconst C 40 (nI 0) dL_ranked_39 rfl (by decide) ?_
        refine s_istore C 42 dL_ranked_40 rfl rfl rfl ?_
        dsimp only [List.set]
        have hno9 := hno
        suffices lp42 : ∀ (fu42 : Nat) (u : Nat), T - u < fu42 → u ≤ T → V X 0 0 42 [some (.int (nI rank)), some (.long (lN q)), none, some (.ref qa), some (.ref aa), some (.long (lN (tCut q))), none, some (.int (nI t)), some (.int (nI (rkC mo od (tS q) (tF q) (lLn al) (lFl al) (lUs Q) t u))), some (.int (nI u))] [] M from lp42 (T + 1) 0 (by omega) (by omega)
        intro fu42
        induction fu42 with
        | zero => intro u hu0 hu; omega
        | succ fu42 ih42 =>
          intro u hu0 hu
          have hcl := cntP_le (P := fun w => (pmO mo (tS q) (tF q) ((lLn al) w) ((lFl al) w)).isSome && (decide (w ≠ t) && cbB od w (plN mo (tS q) (tF q) (lLn al) (lFl al) w) t (plN mo (tS q) (tF q) (lLn al) (lFl al) t) (lLn al) (lFl al) (lUs Q))) u
          have hcl : rkC mo od (tS q) (tF q) (lLn al) (lFl al) (lUs Q) t u ≤ u := hcl
          refine s_iload C 44 dL_ranked_42 rfl rfl ?_
          refine s_aload_n C 45 dL_ranked_44 rfl rfl ?_
          refine s_iconst C 46 (nI 0) dL_ranked_45 rfl (by decide) ?_
          refine s_iald C 47 dL_ranked_46 rfl hQ (by omega) (by omega) ?_
          rw [hQ0]
          refine s_icmp_geN C 104 50 dL_ranked_47 (by decide) rfl (by omega) (by omega) (fun z47 => ?_) (fun z47 => ?_)
          · skip
            have huT : u = T := by omega
            refine s_iload C 106 dL_ranked_104 rfl rfl ?_
            refine s_iload_n C 107 dL_ranked_106 rfl rfl ?_
            refine s_icmp_neN C 113 110 dL_ranked_107 (by decide) rfl (by omega) (by omega) (fun z107 => ?_) (fun z107 => ?_)
            · skip
              have hcT : rkC mo od (tS q) (tF q) (lLn al) (lFl al) (lUs Q) t T ≠ rank := by rw [← huT]; exact z107
              refine s_iinc C 116 (nI (t + 1)) dL_ranked_113 rfl rfl (by rw [← nI_add]; rfl) rfl ?_
              dsimp only [List.set]
              refine s_goto C 9 dL_ranked_116 (by decide) ?_
              refine V.drop 8 ?_
              dsimp only [List.set]
              refine V.drop 9 ?_
              dsimp only [List.set]
              exact ih9 (t + 1) (by omega) (by omega) (fun x hx hs => by by_cases e : x = t; (· rw [e] at hs ⊢; exact hcT); exact hno x (by omega) hs)
            · skip
              have hcT : rkC mo od (tS q) (tF q) (lLn al) (lFl al) (lUs Q) t T = rank := by rw [← huT]; exact z107
              have hat := rk_at hok (by omega) hst hcT
              have hz : (if rank < (rkN T mo od (tS q) (tF q) (lLn al) (lFl al) (lUs Q) T).1 then nI ((rkN T mo od (tS q) (tF q) (lLn al) (lFl al) (lUs Q) T).2 rank) else -1) = nI t := by rw [if_pos hat.1, hat.2]
              refine s_iload C 112 dL_ranked_110 rfl rfl ?_
              exact s_iret C dL_ranked_112 Tr rfl ⟨by rw [hz], rfl⟩
          · skip
            refine s_iload C 52 dL_ranked_50 rfl rfl ?_
            refine s_iload C 54 dL_ranked_52 rfl rfl ?_
            refine s_iload C 56 dL_ranked_54 rfl rfl ?_
            refine s_icmp_eqN C 94 59 dL_ranked_56 (by decide) rfl (by omega) (by omega) (fun z56 => ?_) (fun z56 => ?_)
            · skip
              have hwhy : (pmO mo (tS q) (tF q) ((lLn al) u) ((lFl al) u)).isSome = false ∨ u = t ∨ cbB od u (plN mo (tS q) (tF q) (lLn al) (lFl al) u) t (plN mo (tS q) (tF q) (lLn al) (lFl al) t) (lLn al) (lFl al) (lUs Q) = false := Or.inr (Or.inl z56)
              refine s_iconst C 95 (nI 0) dL_ranked_94 rfl (by decide) ?_
              refine s_iaddN C 96 dL_ranked_95 rfl ?_
              refine s_istore C 98 dL_ranked_96 rfl rfl rfl ?_
              dsimp only [List.set]
              refine s_iinc C 101 (nI (u + 1)) dL_ranked_98 rfl rfl (by rw [← nI_add]; rfl) rfl ?_
              dsimp only [List.set]
              refine s_goto C 42 dL_ranked_101 (by decide) ?_
              have e9 : rkC mo od (tS q) (tF q) (lLn al) (lFl al) (lUs Q) t (u + 1) = rkC mo od (tS q) (tF q) (lLn al) (lFl al) (lUs Q) t u + 0 := rkC_n hwhy
              have i9 := ih42 (u + 1) (by omega) (by omega)
              rw [e9] at i9
              exact i9
            · skip
              refine s_aload C 61 dL_ranked_59 rfl rfl ?_
              refine s_iload C 63 dL_ranked_61 rfl rfl ?_
              refine s_laldN C 64 dL_ranked_63 rfl hA (by omega) (by omega) ?_
              refine s_lload C 66 dL_ranked_64 rfl rfl ?_
              refine s_aload_n C 67 dL_ranked_66 rfl rfl ?_
              refine s_iconst C 68 (nI 1) dL_ranked_67 rfl (by decide) ?_
              refine s_iald C 69 dL_ranked_68 rfl hQ (by omega) (by omega) ?_
              rw [hQ1]
              have hgu := hg u (by omega)
              have hcu : plT (al u) (tCut q) mo = pmO mo (tS q) (tF q) ((lLn al) u) ((lFl al) u) := plT_cut hq
              have h26u : ∀ j, pmO mo (tS q) (tF q) ((lLn al) u) ((lFl al) u) = some j → j < 26 := fun j hj => plT_26 hgu (hcu.trans hj)
              refine s_invS C 72 0 0 [.int (nI (rkC mo od (tS q) (tF q) (lLn al) (lFl al) (lUs Q) t u))] dL_ranked_69 rfl m_L_38 (l_place hgu hm hc60 hcp) rfl rfl rfl ⟨by decide, by decide⟩ (Nat.le_of_ble_eq_true rfl) (by omega) (by omega) ?_
              rintro _ M3 ⟨rfl, rfl⟩
              dsimp only [Option.toList, List.cons_append, List.nil_append]
              rw [hcu]
              refine s_if_lt C 94 75 dL_ranked_72 (by decide) rfl (fun z72 => ?_) (fun z72 => ?_)
              · skip
                have hwhy : (pmO mo (tS q) (tF q) ((lLn al) u) ((lFl al) u)).isSome = false ∨ u = t ∨ cbB od u (plN mo (tS q) (tF q) (lLn al) (lFl al) u) t (plN mo (tS q) (tF q) (lLn al) (lFl al) t) (lLn al) (lFl al) (lUs Q) = false := Or.inl (by rw [(oJ_lt h26u).mp z72]; rfl)
                refine s_iconst C 95 (nI 0) dL_ranked_94 rfl (by decide) ?_
                refine s_iaddN C 96 dL_ranked_95 rfl ?_
                refine s_istore C 98 dL_ranked_96 rfl rfl rfl ?_
                dsimp only [List.set]
                refine s_iinc C 101 (nI (u + 1)) dL_ranked_98 rfl rfl (by rw [← nI_add]; rfl) rfl ?_
                dsimp only [List.set]
                refine s_goto C 42 dL_ranked_101 (by decide) ?_
                have e9 : rkC mo od (tS q) (tF q) (lLn al) (lFl al) (lUs Q) t (u + 1) = rkC mo od (tS q) (tF q) (lLn al) (lFl al) (lUs Q) t u + 0 := rkC_n hwhy
                have i9 := ih42 (u + 1) (by omega) (by omega)
                rw [e9] at i9
                exact i9
              · skip
                obtain ⟨pu, hpu⟩ := oN_s (o := pmO mo (tS q) (tF q) ((lLn al) u) ((lFl al) u)) (fun q9 => z72 ((oJ_lt h26u).mpr q9))
                have hsu : (pmO mo (tS q) (tF q) ((lLn al) u) ((lFl al) u)).isSome = true := by rw [hpu]; rfl
                have hppu : plT (al u) (tCut q) mo = some (plN mo (tS q) (tF q) (lLn al) (lFl al) u) := by rw [hcu]; unfold plN; rw [hpu]; rfl
                refine s_iload C 77 dL_ranked_75 rfl rfl ?_
                refine s_iload C 79 dL_ranked_77 rfl rfl ?_
                refine s_lload C 81 dL_ranked_79 rfl rfl ?_
                refine s_aload_n C 82 dL_ranked_81 rfl rfl ?_
                refine s_aload C 84 dL_ranked_82 rfl rfl ?_
                refine s_invS C 87 0 0 [.int (nI (rkC mo od (tS q) (tF q) (lLn al) (lFl al) (lUs Q) t u))] dL_ranked_84 rfl m_L_42 (l_ahead hQ hA hQ1 hQ2 hm ho (by omega) (by omega) hgu hgt (hne u t (by omega) (by omega) z56) hcp hppu hppt) rfl rfl rfl ⟨by decide, by decide⟩ (Nat.le_of_ble_eq_true rfl) (by omega) (by omega) ?_
                rintro _ M4 ⟨rfl, rfl⟩
                dsimp only [Option.toList, List.cons_append, List.nil_append]
                refine s_if_eqB C 94 90 dL_ranked_87 (by decide) rfl (fun z87 => ?_) (fun z87 => ?_)
                · skip
                  have hwhy : (pmO mo (tS q) (tF q) ((lLn al) u) ((lFl al) u)).isSome = false ∨ u = t ∨ cbB od u (plN mo (tS q) (tF q) (lLn al) (lFl al) u) t (plN mo (tS q) (tF q) (lLn al) (lFl al) t) (lLn al) (lFl al) (lUs Q) = false := Or.inr (Or.inr z87)
                  refine s_iconst C 95 (nI 0) dL_ranked_94 rfl (by decide) ?_
                  refine s_iaddN C 96 dL_ranked_95 rfl ?_
                  refine s_istore C 98 dL_ranked_96 rfl rfl rfl ?_
                  dsimp only [List.set]
                  refine s_iinc C 101 (nI (u + 1)) dL_ranked_98 rfl rfl (by rw [← nI_add]; rfl) rfl ?_
                  dsimp only [List.set]
                  refine s_goto C 42 dL_ranked_101 (by decide) ?_
                  have e9 : rkC mo od (tS q) (tF q) (lLn al) (lFl al) (lUs Q) t (u + 1) = rkC mo od (tS q) (tF q) (lLn al) (lFl al) (lUs Q) t u + 0 := rkC_n hwhy
                  have i9 := ih42 (u + 1) (by omega) (by omega)
                  rw [e9] at i9
                  exact i9
                · skip
                  have hah := z87
                  refine s_iconst C 91 (nI 1) dL_ranked_90 rfl (by decide) ?_
                  refine s_goto C 95 dL_ranked_91 (by decide) ?_
                  refine s_iaddN C 96 dL_ranked_95 rfl ?_
                  refine s_istore C 98 dL_ranked_96 rfl rfl rfl ?_
                  dsimp only [List.set]
                  refine s_iinc C 101 (nI (u + 1)) dL_ranked_98 rfl rfl (by rw [← nI_add]; rfl) rfl ?_
                  dsimp only [List.set]
                  refine s_goto C 42 dL_ranked_101 (by decide) ?_
                  have e9 : rkC mo od (tS q) (tF q) (lLn al) (lFl al) (lUs Q) t (u + 1) = rkC mo od (tS q) (tF q) (lLn al) (lFl al) (lUs Q) t u + 1 := rkC_y hsu z56 hah
                  have i9 := ih42 (u + 1) (by omega) (by omega)
                  rw [e9] at i9
                  exact i9
      · skip
        have hnt : pmO mo (tS q) (tF q) ((lLn al) t) ((lFl al) t) = none := by cases e : pmO mo (tS q) (tF q) ((lLn al) t) ((lFl al) t) with | none => rfl | some j => exact absurd ((oJ_ge h26t).mpr (by rw [e]; exact fun w => by cases w)) z30
        refine s_goto C 113 dL_ranked_33 (by decide) ?_
        refine s_iinc C 116 (nI (t + 1)) dL_ranked_113 rfl rfl (by rw [← nI_add]; rfl) rfl ?_
        dsimp only [List.set]
        refine s_goto C 9 dL_ranked_116 (by decide) ?_
        exact ih9 (t + 1) (by omega) (by omega) (fun x hx hs => by by_cases e : x = t; (· rw [e] at hs ⊢; rw [hnt] at hs; cases hs); exact hno x (by omega) hs)
