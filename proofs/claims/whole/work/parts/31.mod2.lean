/-! the reference's words for what it finds -/
def cnM (mo : Nat) (f : Nat → Int32) (k : Nat) : Nat := if mo = 3 then wsN f k else k
theorem wsN_le {f : Nat → Int32} : ∀ k, wsN f k ≤ k
  | 0 => Nat.le_refl _
  | k + 1 => by have := wsN_le (f := f) k; rw [wsN]; split <;> omega
theorem cnM_le {mo : Nat} {f : Nat → Int32} {k : Nat} : cnM mo f k ≤ k := by
  unfold cnM
  split
  · exact wsN_le k
  · exact Nat.le_refl _
theorem cnM_y {mo : Nat} {f : Nat → Int32} {k : Nat} (h : mo = 3 → wsB f k = true) : cnM mo f (k + 1) = cnM mo f k + 1 := by
  unfold cnM
  by_cases e : mo = 3
  · rw [if_pos e, if_pos e, wsN, if_pos (h e)]
  · rw [if_neg e, if_neg e]
theorem cnM_n {mo : Nat} {f : Nat → Int32} {k : Nat} (e : mo = 3) (h : wsB f k = false) : cnM mo f (k + 1) = cnM mo f k := by
  unfold cnM
  rw [if_pos e, if_pos e, wsN, if_neg (by rw [h]; decide)]
  rfl
theorem cnM_end {mo n : Nat} {f : Nat → Int32} (hv : TV n f) : cnM mo f n = srN mo n f := by
  unfold cnM
  by_cases e : mo = 3
  · rw [if_pos e, e, srN_3 hv]
  · rw [if_neg e, srN_o e]
theorem srG_at {mo n : Nat} {f : Nat → Int32} {k : Nat} (hk : k < n) (h : mo = 3 → wsB f k = true) : srG mo n f (cnM mo f k) = f k := by
  unfold cnM
  by_cases e : mo = 3
  · rw [if_pos e, e, srG_3]
    exact iniF_at hk (h e)
  · rw [if_neg e, srG_o e]
/-- what is found: its start, its length -/
def fdS (k : Nat × Nat) : Int32 := if 0 < k.2 then nI k.1 else -6
def fdL (k : Nat × Nat) : Int32 := if 0 < k.2 then nI k.2 else -6
theorem qc_cases {ql : Nat} {q : Nat → Int32} : (ql = 0 ∧ qcN ql q = 0) ∨ (0 < ql ∧ q (ql - 1) = nI 32 ∧ qcN ql q = ql - 1) ∨ (0 < ql ∧ q (ql - 1) ≠ nI 32 ∧ qcN ql q = ql) := by
  by_cases h : qeB ql q = true
  · have h1 : qcN ql q = ql := by unfold qcN; rw [if_pos h]
    unfold qeB at h
    have h := of_decide_eq_true h
    exact Or.inr (Or.inr ⟨h.1, h.2, h1⟩)
  · have h1 : qcN ql q = ql - 1 := by unfold qcN; rw [if_neg h]
    have h : ¬ (0 < ql ∧ q (ql - 1) ≠ nI 32) := fun w => h (decide_eq_true w)
    by_cases e : ql = 0
    · exact Or.inl ⟨e, by omega⟩
    · refine Or.inr (Or.inl ⟨by omega, ?_, h1⟩)
      by_cases e2 : q (ql - 1) = nI 32
      · exact e2
      · exact absurd ⟨by omega, e2⟩ h
/-- what counts of the query doesn't end with a blank -/
theorem qc_last {T mo od ql : Nat} {q : Nat → Int32} {ln : Nat → Nat} {fl : Nat → Nat → Int32} (hok : okX T mo od ql q ln fl) (h0 : 0 < qcN ql q) : q (qcN ql q - 1) ≠ nI 32 := by
  rcases qc_cases (ql := ql) (q := q) with ⟨h1, h2⟩ | ⟨h1, h2, h3⟩ | ⟨h1, h2, h3⟩
  · omega
  · intro e
    have := hok.Q (qcN ql q - 1) (by omega) e
    rw [show qcN ql q - 1 + 1 = ql - 1 by omega] at this
    exact this h2
  · rw [h3]; exact h2
theorem ppO_pm {mo ql n : Nat} {q f : Nat → Int32} : ppO mo (qcN ql q) q n f = pmO mo ql q n f := rfl
/-- the others don't have it -/
def alP (mo : Nat) (ln : Nat → Nat) (fl : Nat → Nat → Int32) (t : Nat) (a : Nat → Int32) (al i : Nat) : Bool := decide (∀ u, u < i → u ≠ t → plc mo (ln u) (1 + cnB (fl u) (ln u)) (fl u) (iniF (fl u) (ln u)) a al = none)
theorem alP_step {mo : Nat} {ln : Nat → Nat} {fl : Nat → Nat → Int32} {t : Nat} {a : Nat → Int32} {al i : Nat} : alP mo ln fl t a al (i + 1) = (alP mo ln fl t a al i && (decide (i = t) || decide (plc mo (ln i) (1 + cnB (fl i) (ln i)) (fl i) (iniF (fl i) (ln i)) a al = none))) := by
  unfold alP
  rw [← Bool.decide_or, ← Bool.decide_and]
  refine decide_eq_decide.mpr ⟨fun h => ⟨fun u hu hn => h u (by omega) hn, ?_⟩, fun h u hu hn => ?_⟩
  · by_cases e : i = t
    · exact Or.inl e
    · exact Or.inr (h i (by omega) e)
  · by_cases e : u = i
    · subst e
      exact h.2.resolve_left hn
    · exact h.1 u (by omega) hn
theorem alP_no {mo : Nat} {ln : Nat → Nat} {fl : Nat → Nat → Int32} {t : Nat} {a : Nat → Int32} {al i j : Nat} (h : alP mo ln fl t a al i = false) (hij : i ≤ j) : alP mo ln fl t a al j = false := by
  unfold alP at h ⊢
  exact decide_eq_false (fun g => (of_decide_eq_false h) (fun u hu hn => g u (by omega) hn))
/-- it is ahead of the others that have it -/
def fiP (mo od : Nat) (ln : Nat → Nat) (fl : Nat → Nat → Int32) (us : Nat → Int32) (t pt : Nat) (a : Nat → Int32) (al i : Nat) : Bool := decide (∀ u, u < i → u ≠ t → ∀ p, plc mo (ln u) (1 + cnB (fl u) (ln u)) (fl u) (iniF (fl u) (ln u)) a al = some p → cbB od t pt u p ln fl us = true)
theorem fiP_skip {mo od : Nat} {ln : Nat → Nat} {fl : Nat → Nat → Int32} {us : Nat → Int32} {t pt : Nat} {a : Nat → Int32} {al i : Nat} (h : i = t ∨ plc mo (ln i) (1 + cnB (fl i) (ln i)) (fl i) (iniF (fl i) (ln i)) a al = none) : fiP mo od ln fl us t pt a al (i + 1) = fiP mo od ln fl us t pt a al i := by
  unfold fiP
  refine decide_eq_decide.mpr ⟨fun g u hu => g u (by omega), fun g u hu hn p hp => ?_⟩
  by_cases e : u = i
  · subst e
    rcases h with h | h
    · exact absurd h hn
    · rw [h] at hp; cases hp
  · exact g u (by omega) hn p hp
theorem fiP_one {mo od : Nat} {ln : Nat → Nat} {fl : Nat → Nat → Int32} {us : Nat → Int32} {t pt : Nat} {a : Nat → Int32} {al i p : Nat} (hn : i ≠ t) (h : plc mo (ln i) (1 + cnB (fl i) (ln i)) (fl i) (iniF (fl i) (ln i)) a al = some p) : fiP mo od ln fl us t pt a al (i + 1) = (fiP mo od ln fl us t pt a al i && cbB od t pt i p ln fl us) := by
  unfold fiP
  rw [← Bool.decide_eq_true (b := cbB od t pt i p ln fl us), ← Bool.decide_and]
  refine decide_eq_decide.mpr ⟨fun g => ⟨fun u hu => g u (by omega), by simpa using g i (by omega) hn p h⟩, fun g u hu hn p' hp => ?_⟩
  by_cases e : u = i
  · subst e
    rw [h] at hp
    cases hp
    simpa using g.2
  · exact g.1 u (by omega) hn p' hp
theorem fiP_no {mo od : Nat} {ln : Nat → Nat} {fl : Nat → Nat → Int32} {us : Nat → Int32} {t pt : Nat} {a : Nat → Int32} {al i j : Nat} (h : fiP mo od ln fl us t pt a al i = false) (hij : i ≤ j) : fiP mo od ln fl us t pt a al j = false := by
  unfold fiP at h ⊢
  exact decide_eq_false (fun g => (of_decide_eq_false h) (fun u hu hn => g u (by omega) hn))
theorem alP_alo {T mo : Nat} {ln : Nat → Nat} {fl : Nat → Nat → Int32} {t s l : Nat} : alP mo ln fl t (fun k => srG mo (ln t) (fl t) (s + k)) l T = aloB T mo ln fl t s l := rfl
theorem fiP_fir {T mo od ql : Nat} {q : Nat → Int32} {ln : Nat → Nat} {fl : Nat → Nat → Int32} {us : Nat → Int32} {t s l pt : Nat} (hok : okX T mo od ql q ln fl) (ht : t < T) (hp : pl2 mo ln fl t s l t = some pt) : fiP mo od ln fl us t pt (fun k => srG mo (ln t) (fl t) (s + k)) l T = firB T mo od ln fl us t s l := by
  unfold fiP firB
  refine decide_eq_decide.mpr ⟨fun h u hu hn p h2 => ?_, fun h u hu hn p h2 => ?_⟩
  · rw [hp]
    have := h u hu hn p h2
    rw [cb_flip hok ht hu (fun e => hn e.symm)] at this
    simpa using this
  · have := h u hu hn p h2
    rw [hp] at this
    rw [cb_flip hok ht hu (fun e => hn e.symm)]
    simpa using this
/-- found: the shortest, and of these the first -/
theorem bst_hit {P : Nat → Nat → Bool} {s l : Nat} (h0 : 0 < l) (hp : P s l = true) (h1 : ∀ s' l', 0 < l' → l' < l → P s' l' = false) (h2 : ∀ s', s' < s → P s' l = false) (hb : ∀ s l, P s l = true → s < 25 ∧ 0 < l ∧ l ≤ 24) : bst P = (s, l) := by
  refine bst_of (Or.inr ⟨h0, trivial, hp, fun s' l' _ hl' hp' => ?_⟩) hb
  by_cases e : l' < l
  · have := h1 s' l' hl' e
    rw [show P s' l' = true from hp'] at this
    cases this
  · by_cases e2 : l < l'
    · exact Or.inl e2
    · have e3 : l' = l := by omega
      subst e3
      refine Or.inr ⟨rfl, ?_⟩
      by_cases e4 : s' < s
      · have := h2 s' e4
        rw [show P s' l' = true from hp'] at this
        cases this
      · omega
theorem bst_miss {P : Nat → Nat → Bool} (h1 : ∀ s l, P s l = false) (hb : ∀ s l, P s l = true → s < 25 ∧ 0 < l ∧ l ≤ 24) : bst P = (0, 0) := by
  refine bst_of (Or.inl ⟨rfl, rfl, fun s' l' _ _ hp' => ?_⟩) hb
  have := h1 s' l'
  rw [show P s' l' = true from hp'] at this
  cases this
theorem fd_hit {P : Nat → Nat → Bool} {s l : Nat} (h0 : 0 < l) (h : bst P = (s, l)) : fdS (bst P) = nI s ∧ fdL (bst P) = nI l := by
  rw [h]
  exact ⟨if_pos h0, if_pos h0⟩
theorem fd_miss {P : Nat → Nat → Bool} (h : bst P = (0, 0)) : fdS (bst P) = -6 ∧ fdL (bst P) = -6 := by
  rw [h]
  exact ⟨rfl, rfl⟩
theorem fdL_n {k : Nat × Nat} (h : k.2 < 1000) : fdL k = -6 ↔ ¬ 0 < k.2 := by
  unfold fdL
  by_cases e : 0 < k.2
  · rw [if_pos e]
    refine ⟨fun w => ?_, fun w => absurd e w⟩
    have h1 : (nI k.2).toInt = (-6 : Int32).toInt := congrArg Int32.toInt w
    rw [nI_toInt (by omega)] at h1
    exact absurd h1 (by have : (-6 : Int32).toInt = -6 := by decide
                        omega)
  · rw [if_neg e]
    exact ⟨fun _ => e, fun _ => rfl⟩
theorem bst_lt {P : Nat → Nat → Bool} : (bst P).1 < 25 ∧ (bst P).2 < 25 := by
  unfold bst
  split
  · exact ⟨by decide, by decide⟩
  · rename_i l hl
    have := (fnd_some _ _ _).mp hl
    refine ⟨?_, by show l < 25; omega⟩
    show (fnd (fun s => P s l) 0 25).getD 0 < 25
    cases e : fnd (fun s => P s l) 0 25 with
    | none => decide
    | some s => have := (fnd_some _ _ _).mp e; show s < 25; omega
theorem plc_26 {mo n : Nat} {f a : Nat → Int32} {al : Nat} (hv : TV n f) : ∀ j, plc mo n (1 + cnB f n) f (iniF f n) a al = some j → j < 26 := by
  intro j h
  have h1 := plc_lt h
  have h2 := hv.sr (mo := mo)
  unfold srN at h2
  omega
theorem pKb_big {T mo t s l : Nat} {ln : Nat → Nat} {fl : Nat → Nat → Int32} (h : ¬ (0 < l ∧ s + l ≤ srN mo (ln t) (fl t))) : pKb T mo ln fl t s l = false := by
  cases e : pKb T mo ln fl t s l with
  | false => rfl
  | true => exact absurd (pcB_of (pKb_c e)) h
theorem pSb_big {T mo od t s l : Nat} {ln : Nat → Nat} {fl : Nat → Nat → Int32} {us : Nat → Int32} (h : ¬ (0 < l ∧ s + l ≤ srN mo (ln t) (fl t))) : pSb T mo od ln fl us t s l = false := by
  cases e : pSb T mo od ln fl us t s l with
  | false => rfl
  | true => exact absurd (pcB_of (pSb_c e)) h
theorem hd_mono {T mo t : Nat} {ln : Nat → Nat} {fl : Nat → Nat → Int32} {x : Nat × Option Nat} (h : match x.2 with | none => x.1 = 0 | some j => j < t ∧ x.1 = (kyN T mo ln fl j).2 ∧ 0 < (kyN T mo ln fl j).2) : match x.2 with | none => x.1 = 0 | some j => j < t + 1 ∧ x.1 = (kyN T mo ln fl j).2 ∧ 0 < (kyN T mo ln fl j).2 := by
  cases e : x.2 with
  | none => rw [e] at h; exact h
  | some j => rw [e] at h; exact ⟨Nat.lt_succ_of_lt h.1, h.2⟩
set_option maxRecDepth 100000 in
set_option maxHeartbeats 4000000 in
theorem n_findSources {G : mG} {M : mM} {m sa ha c xa tl ra la qa al ka rm pa za wa ua ap nu be en : Nat} {fs fe cm : Int32} (hO : M m = some (300, .inl (8, nL sa ha c xa tl ra la qa al ka rm pa fs fe za wa ua ap cm nu be en))) {S : Nat → Int32} (hS : M sa = some (301, .inr (0, 444, .inl S))) {T mo od ql : Nat} {q : Nat → Int32} {ln : Nat → Nat} {fl : Nat → Nat → Int32} {us : Nat → Int32} (hx : SR S T mo od ql q ln fl us) (hok : okX T mo od ql q ln fl) {so sn : Nat → Int32} (hSo : M ra = some (304, .inr (0, 384, .inl so))) (hSn : M la = some (305, .inr (0, 16, .inl sn)))  : CC G iX7_findSources 0 0 [.ref m] M (fun r M1 => r = none ∧ (∃ so1 sn1 : Nat → Int32, M1 ra = some (304, .inr (0, 384, .inl so1)) ∧ M1 la = some (305, .inr (0, 16, .inl sn1)) ∧ srO so1 sn1 T mo ln fl) ∧ mZ [304, 305] M M1) := by
  refine CC.of rfl (Nat.le_of_ble_eq_true rfl) rfl (fun X C Tr => ?_)
  show V X 0 0 0 [some (.ref m), none, none, none] [] M
  have hx8 := hx
  obtain ⟨hx0, hx1, hx2, hx3, hxq, hxt⟩ := hx
  have hT16 := hok.T16
  have hm4 := hok.m4
  have ho3 := hok.o3
  have hq24 := hok.q24
  have hF : mZ [304, 305] M M := mZ.rf
  refine s_iconst C 1 (nI 0) dX7_findSources_0 rfl (by decide) ?_
  refine s_istore_n C 2 dX7_findSources_1 rfl rfl rfl ?_
  dsimp only [List.set]
  suffices lp2 : ∀ (fu2 : Nat) (t : Nat) (so9 sn9 : Nat → Int32) (M9 : mM), T - t < fu2 → t ≤ T → (∀ t2, t2 < t → sn9 t2 = nI (srN mo (ln t2) (fl t2))) → (∀ t2, t2 < t → ∀ k2, k2 < srN mo (ln t2) (fl t2) → so9 (24 * t2 + k2) = srG mo (ln t2) (fl t2) k2) → M9 m = some (300, .inl (8, [.ref sa, .ref ha, .int (nI c), .ref xa, .int (nI tl), .ref ra, .ref la, .ref qa, .int (nI al), .ref ka, .int (nI rm), .ref pa, .int fs, .int fe, .ref za, .ref wa, .ref ua, .int (nI ap), .int cm, .int (nI nu), .int (nI be), .int (nI en)])) → M9 sa = some (301, .inr (0, 444, .inl S)) → M9 ra = some (304, .inr (0, 384, .inl so9)) → M9 la = some (305, .inr (0, 16, .inl sn9)) → mZ [304, 305] M M9 → V X 0 0 2 [some (.ref m), some (.int (nI t)), none, none] [] M9 from lp2 (T + 1) 0 _ _ _ (by omega) (by omega) (fun t2 h2 => by omega) (fun t2 h2 => by omega) hO hS hSo hSn hF
  intro fu2
  induction fu2 with
  | zero => intro t so9 sn9 M9 ht0 ht hq1 hq2 hO hS hSo hSn hF; omega
  | succ fu2 ih2 =>
    intro t so9 sn9 M9 ht0 ht hq1 hq2 hO hS hSo hSn hF
    refine s_iload_n C 3 dX7_findSources_2 rfl rfl ?_
    refine s_aload_n C 4 dX7_findSources_3 rfl rfl ?_
    refine s_getf C 7 dX7_findSources_4 rfl f_X7_7 hO rfl ?_
    refine s_iconst C 8 (nI 0) dX7_findSources_7 rfl (by decide) ?_
    refine s_iald C 9 dX7_findSources_8 rfl hS (by omega) (by omega) ?_
    rw [hx0]
    refine s_icmp_geN C 83 12 dX7_findSources_9 (by decide) rfl (by omega) (by omega) (fun z9 => ?_) (fun z9 => ?_)
    · skip
      have hte : t = T := by omega
      exact s_vret C dX7_findSources_83 Tr rfl ⟨rfl, ⟨_, _, hSo, hSn, fun t2 h2 => ⟨hq1 t2 (by omega), hq2 t2 (by omega)⟩⟩, hF⟩
    · skip
      refine s_iconst C 13 (nI 0) dX7_findSources_12 rfl (by decide) ?_
      refine s_istore_n C 14 dX7_findSources_13 rfl rfl rfl ?_
      dsimp only [List.set]
      refine s_iconst C 15 (nI 0) dX7_findSources_14 rfl (by decide) ?_
      refine s_istore_n C 16 dX7_findSources_15 rfl rfl rfl ?_
      dsimp only [List.set]
      have htT : t < T := by omega
      have hvt := hok.V t htT
      have hl24 := hvt.2.1
      have hsnl := srN_le (mo := mo) hvt
      suffices lp16 : ∀ (fu16 : Nat) (k n : Nat) (so8 : Nat → Int32) (M8 : mM), ln t - k < fu16 → k ≤ ln t → n = cnM mo (fl t) k → (∀ j, j < n → so8 (24 * t + j) = srG mo (ln t) (fl t) j) → (∀ t2, t2 < t → ∀ k2, k2 < srN mo (ln t2) (fl t2) → so8 (24 * t2 + k2) = srG mo (ln t2) (fl t2) k2) → M8 m = some (300, .inl (8, [.ref sa, .ref ha, .int (nI c), .ref xa, .int (nI tl), .ref ra, .ref la, .ref qa, .int (nI al), .ref ka, .int (nI rm), .ref pa, .int fs, .int fe, .ref za, .ref wa, .ref ua, .int (nI ap), .int cm, .int (nI nu), .int (nI be), .int (nI en)])) → M8 sa = some (301, .inr (0, 444, .inl S)) → M8 ra = some (304, .inr (0, 384, .inl so8)) → M8 la = some (305, .inr (0, 16, .inl sn9)) → mZ [304, 305] M M8 → V X 0 0 16 [some (.ref m), some (.int (nI t)), some (.int (nI n)), some (.int (nI k))] [] M8 from lp16 (ln t + 1) 0 0 _ _ (by omega) (by omega) (by unfold cnM; split <;> rfl) (fun j hj => by omega) hq2 hO hS hSo hSn hF
      intro fu16
      induction fu16 with
      | zero => intro k n so8 M8 hk0 hk hn hin hq2 hO hS hSo hSn hF; omega
      | succ fu16 ih16 =>
        intro k n so8 M8 hk0 hk hn hin hq2 hO hS hSo hSn hF
        have hnk := cnM_le (mo := mo) (f := fl t) (k := k)
        refine s_iload_n C 17 dX7_findSources_16 rfl rfl ?_
        refine s_aload_n C 18 dX7_findSources_17 rfl rfl ?_
        refine s_iload_n C 19 dX7_findSources_18 rfl rfl ?_
        refine s_invV C 22 0 0 [.int (nI k)] (mRv_of hO rfl) dX7_findSources_19 rfl m_X7_58 (n_len hO hS hx8 (t := t) (by omega) hT16) rfl rfl rfl ⟨by decide, by decide⟩ (Nat.le_of_ble_eq_true rfl) (by omega) (by omega) ?_
        rintro _ M1 ⟨rfl, rfl⟩
        dsimp only [Option.toList, List.cons_append, List.nil_append]
        refine s_icmp_geN C 70 25 dX7_findSources_22 (by decide) rfl (by omega) (by omega) (fun z22 => ?_) (fun z22 => ?_)
        · skip
          have hke : k = ln t := by omega
          have hn7 : n = srN mo (ln t) (fl t) := by rw [hn, hke, cnM_end hvt]
          refine s_aload_n C 71 dX7_findSources_70 rfl rfl ?_
          refine s_getf C 74 dX7_findSources_71 rfl f_X7_22 hO rfl ?_
          refine s_iload_n C 75 dX7_findSources_74 rfl rfl ?_
          refine s_iload_n C 76 dX7_findSources_75 rfl rfl ?_
          refine s_iastU C 77 dX7_findSources_76 rfl hSn (by first | decide | omega) (by omega) (by omega) (fun M2 U3 => ?_)
          have hO := U3.o hSn hO (by first | decide | omega)
          have hS := U3.o hSn hS (by first | decide | omega)
          have hSo := U3.o hSn hSo (by first | decide | omega)
          have hF := hF.put U3 hSn (by first | decide | (simp; done) | (simp; omega) | (simp [*]; done))
          have hSn := U3.s
          refine s_iinc C 80 (nI (t + 1)) dX7_findSources_77 rfl rfl (by rw [← nI_add]; rfl) rfl ?_
          dsimp only [List.set]
          refine s_goto C 2 dX7_findSources_80 (by decide) ?_
          refine V.drop 2 ?_
          dsimp only [List.set]
          refine V.drop 3 ?_
          dsimp only [List.set]
          exact ih2 (t + 1) _ _ _ (by omega) (by omega) (fun t2 h2 => by by_cases e : t2 = t; (· rw [e, pk_us, ← hn7]); rw [pk_un e]; exact hq1 t2 (by omega)) (fun t2 h2 k2 h3 => by by_cases e : t2 = t; (· subst e; exact hin k2 (by omega)); exact hq2 t2 (by omega) k2 h3) hO hS hSo hSn hF
        · skip
          refine s_aload_n C 26 dX7_findSources_25 rfl rfl ?_
          refine s_getf C 29 dX7_findSources_26 rfl f_X7_7 hO rfl ?_
          refine s_iconst C 30 (nI 1) dX7_findSources_29 rfl (by decide) ?_
          refine s_iald C 31 dX7_findSources_30 rfl hS (by omega) (by omega) ?_
          rw [hx1]
          refine s_iconst C 32 (nI 3) dX7_findSources_31 rfl (by decide) ?_
          refine s_icmp_neN C 44 35 dX7_findSources_32 (by decide) rfl (by omega) (by omega) (fun z32 => ?_) (fun z32 => ?_)
          · skip
            have hwb : mo = 3 → wsB (fl t) k = true := fun w => absurd w z32
            refine s_aload_n C 45 dX7_findSources_44 rfl rfl ?_
            refine s_getf C 48 dX7_findSources_45 rfl f_X7_19 hO rfl ?_
            refine s_bipush C 50 (nI 24) dX7_findSources_48 rfl (by decide) ?_
            refine s_iload_n C 51 dX7_findSources_50 rfl rfl ?_
            refine s_imulN C 52 dX7_findSources_51 rfl ?_
            refine s_iload_n C 53 dX7_findSources_52 rfl rfl ?_
            refine s_iaddN C 54 dX7_findSources_53 rfl ?_
            refine s_aload_n C 55 dX7_findSources_54 rfl rfl ?_
            refine s_iload_n C 56 dX7_findSources_55 rfl rfl ?_
            refine s_iload_n C 57 dX7_findSources_56 rfl rfl ?_
            refine s_invV C 60 0 0 [.int (nI ((24 * t) + n)), .ref ra] (mRv_of hO rfl) dX7_findSources_57 rfl m_X7_55 (n_char hO hS hx8 (t := t) (k := k) (by omega) hT16 (by omega) (hok.V _ (by omega)).2.1) rfl rfl rfl ⟨by decide, by decide⟩ (Nat.le_of_ble_eq_true rfl) (by omega) (by omega) ?_
            rintro _ M4 ⟨rfl, rfl⟩
            dsimp only [Option.toList, List.cons_append, List.nil_append]
            refine s_iastU C 61 dX7_findSources_60 rfl hSo (by first | decide | omega) (by omega) (by omega) (fun M5 U6 => ?_)
            have hO := U6.o hSo hO (by first | decide | omega)
            have hS := U6.o hSo hS (by first | decide | omega)
            have hSn := U6.o hSo hSn (by first | decide | omega)
            have hF := hF.put U6 hSo (by first | decide | (simp; done) | (simp; omega) | (simp [*]; done))
            have hSo := U6.s
            refine s_iinc C 64 (nI (n + 1)) dX7_findSources_61 rfl rfl (by rw [← nI_add]; rfl) rfl ?_
            dsimp only [List.set]
            refine s_iinc C 67 (nI (k + 1)) dX7_findSources_64 rfl rfl (by rw [← nI_add]; rfl) rfl ?_
            dsimp only [List.set]
            refine s_goto C 16 dX7_findSources_67 (by decide) ?_
            exact ih16 (k + 1) (n + 1) _ _ (by omega) (by omega) (by rw [cnM_y hwb, hn]) (fun j hj => by by_cases e : j = n; (· rw [e, pk_us, hn, srG_at (by omega) hwb]); rw [pk_un (by omega)]; exact hin j (by omega)) (fun t2 h2 k2 h3 => by have h7 := (hok.V t2 (by omega)).sr (mo := mo); rw [pk_un (by omega)]; exact hq2 t2 h2 k2 h3) hO hS hSo hSn hF
          · skip
            refine s_aload_n C 36 dX7_findSources_35 rfl rfl ?_
            refine s_iload_n C 37 dX7_findSources_36 rfl rfl ?_
            refine s_iload_n C 38 dX7_findSources_37 rfl rfl ?_
            refine s_invV C 41 0 0 [] (mRv_of hO rfl) dX7_findSources_38 rfl m_X7_62 (n_begins hO hS hx8 hok (t := t) (k := k) (by omega) (by omega)) rfl rfl rfl ⟨by decide, by decide⟩ (Nat.le_of_ble_eq_true rfl) (by omega) (by omega) ?_
            rintro _ M7 ⟨rfl, rfl⟩
            dsimp only [Option.toList, List.cons_append, List.nil_append]
            refine s_if_eqB C 64 44 dX7_findSources_41 (by decide) rfl (fun z41 => ?_) (fun z41 => ?_)
            · skip
              have hm3 := z32
              have hwb := z41
              refine s_iinc C 67 (nI (k + 1)) dX7_findSources_64 rfl rfl (by rw [← nI_add]; rfl) rfl ?_
              dsimp only [List.set]
              refine s_goto C 16 dX7_findSources_67 (by decide) ?_
              exact ih16 (k + 1) n _ _ (by omega) (by omega) (by rw [cnM_n hm3 hwb]; exact hn) hin hq2 hO hS hSo hSn hF
            · skip
              have hwb : mo = 3 → wsB (fl t) k = true := fun _ => z41
              refine s_aload_n C 45 dX7_findSources_44 rfl rfl ?_
              refine s_getf C 48 dX7_findSources_45 rfl f_X7_19 hO rfl ?_
              refine s_bipush C 50 (nI 24) dX7_findSources_48 rfl (by decide) ?_
              refine s_iload_n C 51 dX7_findSources_50 rfl rfl ?_
              refine s_imulN C 52 dX7_findSources_51 rfl ?_
              refine s_iload_n C 53 dX7_findSources_52 rfl rfl ?_
              refine s_iaddN C 54 dX7_findSources_53 rfl ?_
              refine s_aload_n C 55 dX7_findSources_54 rfl rfl ?_
              refine s_iload_n C 56 dX7_findSources_55 rfl rfl ?_
              refine s_iload_n C 57 dX7_findSources_56 rfl rfl ?_
              refine s_invV C 60 0 0 [.int (nI ((24 * t) + n)), .ref ra] (mRv_of hO rfl) dX7_findSources_57 rfl m_X7_55 (n_char hO hS hx8 (t := t) (k := k) (by omega) hT16 (by omega) (hok.V _ (by omega)).2.1) rfl rfl rfl ⟨by decide, by decide⟩ (Nat.le_of_ble_eq_true rfl) (by omega) (by omega) ?_
              rintro _ M8 ⟨rfl, rfl⟩
              dsimp only [Option.toList, List.cons_append, List.nil_append]
              refine s_iastU C 61 dX7_findSources_60 rfl hSo (by first | decide | omega) (by omega) (by omega) (fun M9 U10 => ?_)
              have hO := U10.o hSo hO (by first | decide | omega)
              have hS := U10.o hSo hS (by first | decide | omega)
              have hSn := U10.o hSo hSn (by first | decide | omega)
              have hF := hF.put U10 hSo (by first | decide | (simp; done) | (simp; omega) | (simp [*]; done))
              have hSo := U10.s
              refine s_iinc C 64 (nI (n + 1)) dX7_findSources_61 rfl rfl (by rw [← nI_add]; rfl) rfl ?_
              dsimp only [List.set]
              refine s_iinc C 67 (nI (k + 1)) dX7_findSources_64 rfl rfl (by rw [← nI_add]; rfl) rfl ?_
              dsimp only [List.set]
              refine s_goto C 16 dX7_findSources_67 (by decide) ?_
              exact ih16 (k + 1) (n + 1) _ _ (by omega) (by omega) (by rw [cnM_y hwb, hn]) (fun j hj => by by_cases e : j = n; (· rw [e, pk_us, hn, srG_at (by omega) hwb]); rw [pk_un (by omega)]; exact hin j (by omega)) (fun t2 h2 k2 h3 => by have h7 := (hok.V t2 (by omega)).sr (mo := mo); rw [pk_un (by omega)]; exact hq2 t2 h2 k2 h3) hO hS hSo hSn hF

set_option maxRecDepth 100000 in
set_option maxHeartbeats 4000000 in
theorem n_findPlaces {G : mG} {M : mM} {m sa ha c xa tl ra la qa al ka rm pa za wa ua ap nu be en : Nat} {fs fe cm : Int32} (hO : M m = some (300, .inl (8, nL sa ha c xa tl ra la qa al ka rm pa fs fe za wa ua ap cm nu be en))) {S : Nat → Int32} (hS : M sa = some (301, .inr (0, 444, .inl S))) {T mo od ql : Nat} {q : Nat → Int32} {ln : Nat → Nat} {fl : Nat → Nat → Int32} {us : Nat → Int32} (hx : SR S T mo od ql q ln fl us) (hok : okX T mo od ql q ln fl) {so sn : Nat → Int32} (hSo : M ra = some (304, .inr (0, 384, .inl so))) (hSn : M la = some (305, .inr (0, 16, .inl sn))) (hsr : srO so sn T mo ln fl) {Q a : Nat → Int32} (hQ : M qa = some (306, .inr (0, 24, .inl Q))) (hQa : ∀ x, x < al → Q x = a x) {P : Nat → Int32} (hP : M pa = some (308, .inr (0, 16, .inl P))) (h24 : al ≤ 24) (hab : 0 < al → a (al - 1) ≠ nI 32) : CC G iX7_findPlaces 0 0 [.ref m] M (fun r M1 => r = none ∧ (∃ P1 : Nat → Int32, M1 pa = some (308, .inr (0, 16, .inl P1)) ∧ ∀ u, u < T → P1 u = oI (ppO mo al a (ln u) (fl u))) ∧ mZ [308] M M1) := by
  refine CC.of rfl (Nat.le_of_ble_eq_true rfl) rfl (fun X C Tr => ?_)
  show V X 0 0 0 [some (.ref m), none] [] M
  have hx8 := hx
  obtain ⟨hx0, hx1, hx2, hx3, hxq, hxt⟩ := hx
  have hT16 := hok.T16
  have hm4 := hok.m4
  have ho3 := hok.o3
  have hq24 := hok.q24
  have hF : mZ [308] M M := mZ.rf
  refine s_iconst C 1 (nI 0) dX7_findPlaces_0 rfl (by decide) ?_
  refine s_istore_n C 2 dX7_findPlaces_1 rfl rfl rfl ?_
  dsimp only [List.set]
  suffices lp2 : ∀ (fu2 : Nat) (t : Nat) (P9 : Nat → Int32) (M9 : mM), T - t < fu2 → t ≤ T → (∀ u, u < t → P9 u = oI (ppO mo al a (ln u) (fl u))) → M9 m = some (300, .inl (8, [.ref sa, .ref ha, .int (nI c), .ref xa, .int (nI tl), .ref ra, .ref la, .ref qa, .int (nI al), .ref ka, .int (nI rm), .ref pa, .int fs, .int fe, .ref za, .ref wa, .ref ua, .int (nI ap), .int cm, .int (nI nu), .int (nI be), .int (nI en)])) → M9 sa = some (301, .inr (0, 444, .inl S)) → M9 ra = some (304, .inr (0, 384, .inl so)) → M9 la = some (305, .inr (0, 16, .inl sn)) → M9 qa = some (306, .inr (0, 24, .inl Q)) → M9 pa = some (308, .inr (0, 16, .inl P9)) → mZ [308] M M9 → V X 0 0 2 [some (.ref m), some (.int (nI t))] [] M9 from lp2 (T + 1) 0 _ _ (by omega) (by omega) (fun u hu => by omega) hO hS hSo hSn hQ hP hF
  intro fu2
  induction fu2 with
  | zero => intro t P9 M9 ht0 ht hpp hO hS hSo hSn hQ hP hF; omega
  | succ fu2 ih2 =>
    intro t P9 M9 ht0 ht hpp hO hS hSo hSn hQ hP hF
    refine s_iload_n C 3 dX7_findPlaces_2 rfl rfl ?_
    refine s_aload_n C 4 dX7_findPlaces_3 rfl rfl ?_
    refine s_getf C 7 dX7_findPlaces_4 rfl f_X7_7 hO rfl ?_
    refine s_iconst C 8 (nI 0) dX7_findPlaces_7 rfl (by decide) ?_
    refine s_iald C 9 dX7_findPlaces_8 rfl hS (by omega) (by omega) ?_
    rw [hx0]
    refine s_icmp_geN C 40 12 dX7_findPlaces_9 (by decide) rfl (by omega) (by omega) (fun z9 => ?_) (fun z9 => ?_)
    · skip
      exact s_vret C dX7_findPlaces_40 Tr rfl ⟨rfl, ⟨_, hP, fun u hu => hpp u (by omega)⟩, hF⟩
    · skip
      refine s_aload_n C 13 dX7_findPlaces_12 rfl rfl ?_
      refine s_getf C 16 dX7_findPlaces_13 rfl f_X7_31 hO rfl ?_
      refine s_iload_n C 17 dX7_findPlaces_16 rfl rfl ?_
      refine s_aload_n C 18 dX7_findPlaces_17 rfl rfl ?_
      refine s_getf C 21 dX7_findPlaces_18 rfl f_X7_72 hO rfl ?_
      refine s_if_neN C 28 24 dX7_findPlaces_21 (by decide) rfl (by omega) (fun z21 => ?_) (fun z21 => ?_)
      · skip
        refine s_aload_n C 29 dX7_findPlaces_28 rfl rfl ?_
        refine s_iload_n C 30 dX7_findPlaces_29 rfl rfl ?_
        refine s_invV C 33 0 0 [.int (nI t), .ref pa] (mRv_of hO rfl) dX7_findPlaces_30 rfl m_X7_84 (n_placeIn hO hS hx8 hok hSo hSn hsr hQ hQa (t := t) (by omega) (by omega) h24 (hab (by omega))) rfl rfl rfl ⟨by decide, by decide⟩ (Nat.le_of_ble_eq_true rfl) (by omega) (by omega) ?_
        rintro _ M1 ⟨rfl, rfl⟩
        dsimp only [Option.toList, List.cons_append, List.nil_append]
        have hval : oI (plc mo (ln t) (1 + cnB (fl t) (ln t)) (fl t) (iniF (fl t) (ln t)) a al) = oI (ppO mo al a (ln t) (fl t)) := by unfold ppO; rw [if_neg z21]
        refine s_iastU C 34 dX7_findPlaces_33 rfl hP (by first | decide | omega) (by omega) (by omega) (fun M2 U3 => ?_)
        have hO := U3.o hP hO (by first | decide | omega)
        have hS := U3.o hP hS (by first | decide | omega)
        have hSo := U3.o hP hSo (by first | decide | omega)
        have hSn := U3.o hP hSn (by first | decide | omega)
        have hQ := U3.o hP hQ (by first | decide | omega)
        have hF := hF.put U3 hP (by first | decide | (simp; done) | (simp; omega) | (simp [*]; done))
        have hP := U3.s
        refine s_iinc C 37 (nI (t + 1)) dX7_findPlaces_34 rfl rfl (by rw [← nI_add]; rfl) rfl ?_
        dsimp only [List.set]
        refine s_goto C 2 dX7_findPlaces_37 (by decide) ?_
        exact ih2 (t + 1) _ _ (by omega) (by omega) (fun u hu => by by_cases e : u = t; (· rw [e, pk_us]; exact hval); rw [pk_un e]; exact hpp u (by omega)) hO hS hSo hSn hQ hP hF
      · skip
        have hval : nI 0 = oI (ppO mo al a (ln t) (fl t)) := by unfold ppO; rw [if_pos z21]; rfl
        refine s_iconst C 25 (nI 0) dX7_findPlaces_24 rfl (by decide) ?_
        refine s_goto C 33 dX7_findPlaces_25 (by decide) ?_
        refine s_iastU C 34 dX7_findPlaces_33 rfl hP (by first | decide | omega) (by omega) (by omega) (fun M4 U5 => ?_)
        have hO := U5.o hP hO (by first | decide | omega)
        have hS := U5.o hP hS (by first | decide | omega)
        have hSo := U5.o hP hSo (by first | decide | omega)
        have hSn := U5.o hP hSn (by first | decide | omega)
        have hQ := U5.o hP hQ (by first | decide | omega)
        have hF := hF.put U5 hP (by first | decide | (simp; done) | (simp; omega) | (simp [*]; done))
        have hP := U5.s
        refine s_iinc C 37 (nI (t + 1)) dX7_findPlaces_34 rfl rfl (by rw [← nI_add]; rfl) rfl ?_
        dsimp only [List.set]
        refine s_goto C 2 dX7_findPlaces_37 (by decide) ?_
        exact ih2 (t + 1) _ _ (by omega) (by omega) (fun u hu => by by_cases e : u = t; (· rw [e, pk_us]; exact hval); rw [pk_un e]; exact hpp u (by omega)) hO hS hSo hSn hQ hP hF

set_option maxRecDepth 100000 in
set_option maxHeartbeats 4000000 in
theorem n_isAlone {G : mG} {M : mM} {m sa ha c xa tl ra la qa al ka rm pa za wa ua ap nu be en : Nat} {fs fe cm : Int32} (hO : M m = some (300, .inl (8, nL sa ha c xa tl ra la qa al ka rm pa fs fe za wa ua ap cm nu be en))) {S : Nat → Int32} (hS : M sa = some (301, .inr (0, 444, .inl S))) {T mo od ql : Nat} {q : Nat → Int32} {ln : Nat → Nat} {fl : Nat → Nat → Int32} {us : Nat → Int32} (hx : SR S T mo od ql q ln fl us) (hok : okX T mo od ql q ln fl) {so sn : Nat → Int32} (hSo : M ra = some (304, .inr (0, 384, .inl so))) (hSn : M la = some (305, .inr (0, 16, .inl sn))) (hsr : srO so sn T mo ln fl) {Q a : Nat → Int32} (hQ : M qa = some (306, .inr (0, 24, .inl Q))) (hQa : ∀ x, x < al → Q x = a x) {t : Nat} (ht : t < T) (h0 : 0 < al) (h24 : al ≤ 24) (hab : a (al - 1) ≠ nI 32) : CC G iX7_isAlone 0 0 [.ref m, .int (nI t)] M (fun r M1 => r = some (.int (mB (alP mo ln fl t a al T))) ∧ M = M1) := by
  refine CC.of rfl (Nat.le_of_ble_eq_true rfl) rfl (fun X C Tr => ?_)
  show V X 0 0 0 [some (.ref m), some (.int (nI t)), none, none] [] M
  have hx8 := hx
  obtain ⟨hx0, hx1, hx2, hx3, hxq, hxt⟩ := hx
  have hT16 := hok.T16
  have hm4 := hok.m4
  have ho3 := hok.o3
  have hq24 := hok.q24
  refine s_iconst C 1 (nI 1) dX7_isAlone_0 rfl (by decide) ?_
  refine s_istore_n C 2 dX7_isAlone_1 rfl rfl rfl ?_
  dsimp only [List.set]
  refine s_iconst C 3 (nI 0) dX7_isAlone_2 rfl (by decide) ?_
  refine s_istore_n C 4 dX7_isAlone_3 rfl rfl rfl ?_
  dsimp only [List.set]
  suffices lp4 : ∀ (fu4 : Nat) (u : Nat) (b : Bool), T - u < fu4 → u ≤ T → b = alP mo ln fl t a al u → V X 0 0 4 [some (.ref m), some (.int (nI t)), some (.int (mB b)), some (.int (nI u))] [] M from lp4 (T + 1) 0 true (by omega) (by omega) (by unfold alP; simp)
  intro fu4
  induction fu4 with
  | zero => intro u b hu0 hu hb; omega
  | succ fu4 ih4 =>
    intro u b hu0 hu hb
    refine s_iload_n C 5 dX7_isAlone_4 rfl rfl ?_
    refine s_aload_n C 6 dX7_isAlone_5 rfl rfl ?_
    refine s_getf C 9 dX7_isAlone_6 rfl f_X7_7 hO rfl ?_
    refine s_iconst C 10 (nI 0) dX7_isAlone_9 rfl (by decide) ?_
    refine s_iald C 11 dX7_isAlone_10 rfl hS (by omega) (by omega) ?_
    rw [hx0]
    refine s_icmp_geN C 45 14 dX7_isAlone_11 (by decide) rfl (by omega) (by omega) (fun z11 => ?_) (fun z11 => ?_)
    · skip
      have hz : b = alP mo ln fl t a al T := by rw [hb, show u = T by omega]
      refine s_iload_n C 46 dX7_isAlone_45 rfl rfl ?_
      exact s_zret C dX7_isAlone_46 Tr rfl (mB_z _) ⟨by rw [hz], rfl⟩
    · skip
      refine s_iload_n C 15 dX7_isAlone_14 rfl rfl ?_
      refine s_if_eqB C 45 18 dX7_isAlone_15 (by decide) rfl (fun z15 => ?_) (fun z15 => ?_)
      · skip
        have hz : b = alP mo ln fl t a al T := by rw [alP_no (by rw [← hb]; exact z15) hu]; exact z15
        refine s_iload_n C 46 dX7_isAlone_45 rfl rfl ?_
        exact s_zret C dX7_isAlone_46 Tr rfl (mB_z _) ⟨by rw [hz], rfl⟩
      · skip
        refine s_iload_n C 19 dX7_isAlone_18 rfl rfl ?_
        refine s_iload_n C 20 dX7_isAlone_19 rfl rfl ?_
        refine s_icmp_eqN C 33 23 dX7_isAlone_20 (by decide) rfl (by omega) (by omega) (fun z20 => ?_) (fun z20 => ?_)
        · skip
          have hst : (decide (u = t) || decide (plc mo (ln u) (1 + cnB (fl u) (ln u)) (fl u) (iniF (fl u) (ln u)) a al = none)) = true := by rw [decide_eq_true z20]; rfl
          refine s_iconst C 34 (nI 1) dX7_isAlone_33 rfl (by decide) ?_
          refine s_goto C 38 dX7_isAlone_34 (by decide) ?_
          refine s_istore_n C 39 dX7_isAlone_38 rfl rfl rfl ?_
          dsimp only [List.set]
          refine s_iinc C 42 (nI (u + 1)) dX7_isAlone_39 rfl rfl (by rw [← nI_add]; rfl) rfl ?_
          dsimp only [List.set]
          refine s_goto C 4 dX7_isAlone_42 (by decide) ?_
          exact ih4 (u + 1) true (by omega) (by omega) (by rw [alP_step, ← hb, z15, hst]; rfl)
        · skip
          refine s_aload_n C 24 dX7_isAlone_23 rfl rfl ?_
          refine s_iload_n C 25 dX7_isAlone_24 rfl rfl ?_
          refine s_invV C 28 0 0 [] (mRv_of hO rfl) dX7_isAlone_25 rfl m_X7_84 (n_placeIn hO hS hx8 hok hSo hSn hsr hQ hQa (t := u) (by omega) h0 h24 hab) rfl rfl rfl ⟨by decide, by decide⟩ (Nat.le_of_ble_eq_true rfl) (by omega) (by omega) ?_
          rintro _ M1 ⟨rfl, rfl⟩
          dsimp only [Option.toList, List.cons_append, List.nil_append]
          refine s_bipush C 30 (-6) dX7_isAlone_28 rfl (by decide) ?_
          refine s_icmp_ne C 37 33 dX7_isAlone_30 (by decide) rfl (fun z30 => ?_) (fun z30 => ?_)
          · skip
            have hp26 := plc_26 (mo := mo) (a := a) (al := al) (hok.V u (by omega))
            have hst : (decide (u = t) || decide (plc mo (ln u) (1 + cnB (fl u) (ln u)) (fl u) (iniF (fl u) (ln u)) a al = none)) = false := by rw [decide_eq_false z20, decide_eq_false (fun w => z30 ((oI_n (fun j hj => by have := hp26 j hj; omega)).mpr w))]; rfl
            refine s_iconst C 38 (nI 0) dX7_isAlone_37 rfl (by decide) ?_
            refine s_istore_n C 39 dX7_isAlone_38 rfl rfl rfl ?_
            dsimp only [List.set]
            refine s_iinc C 42 (nI (u + 1)) dX7_isAlone_39 rfl rfl (by rw [← nI_add]; rfl) rfl ?_
            dsimp only [List.set]
            refine s_goto C 4 dX7_isAlone_42 (by decide) ?_
            exact ih4 (u + 1) false (by omega) (by omega) (by rw [alP_step, ← hb, z15, hst]; rfl)
          · skip
            have hp26 := plc_26 (mo := mo) (a := a) (al := al) (hok.V u (by omega))
            have hst : (decide (u = t) || decide (plc mo (ln u) (1 + cnB (fl u) (ln u)) (fl u) (iniF (fl u) (ln u)) a al = none)) = true := by rw [decide_eq_false z20, decide_eq_true ((oI_n (fun j hj => by have := hp26 j hj; omega)).mp z30)]; rfl
            refine s_iconst C 34 (nI 1) dX7_isAlone_33 rfl (by decide) ?_
            refine s_goto C 38 dX7_isAlone_34 (by decide) ?_
            refine s_istore_n C 39 dX7_isAlone_38 rfl rfl rfl ?_
            dsimp only [List.set]
            refine s_iinc C 42 (nI (u + 1)) dX7_isAlone_39 rfl rfl (by rw [← nI_add]; rfl) rfl ?_
            dsimp only [List.set]
            refine s_goto C 4 dX7_isAlone_42 (by decide) ?_
            exact ih4 (u + 1) true (by omega) (by omega) (by rw [alP_step, ← hb, z15, hst]; rfl)

set_option maxRecDepth 100000 in
set_option maxHeartbeats 4000000 in
theorem n_isFirst {G : mG} {M : mM} {m sa ha c xa tl ra la qa al ka rm pa za wa ua ap nu be en : Nat} {fs fe cm : Int32} (hO : M m = some (300, .inl (8, nL sa ha c xa tl ra la qa al ka rm pa fs fe za wa ua ap cm nu be en))) {S : Nat → Int32} (hS : M sa = some (301, .inr (0, 444, .inl S))) {T mo od ql : Nat} {q : Nat → Int32} {ln : Nat → Nat} {fl : Nat → Nat → Int32} {us : Nat → Int32} (hx : SR S T mo od ql q ln fl us) (hok : okX T mo od ql q ln fl) {so sn : Nat → Int32} (hSo : M ra = some (304, .inr (0, 384, .inl so))) (hSn : M la = some (305, .inr (0, 16, .inl sn))) (hsr : srO so sn T mo ln fl) {Q a : Nat → Int32} (hQ : M qa = some (306, .inr (0, 24, .inl Q))) (hQa : ∀ x, x < al → Q x = a x) {P : Nat → Int32} (hP : M pa = some (308, .inr (0, 16, .inl P))) {t pt : Nat} (ht : t < T) (h0 : 0 < al) (h24 : al ≤ 24) (hab : a (al - 1) ≠ nI 32) (hpt : plc mo (ln t) (1 + cnB (fl t) (ln t)) (fl t) (iniF (fl t) (ln t)) a al = some pt) : CC G iX7_isFirst 0 0 [.ref m, .int (nI t)] M (fun r M1 => r = some (.int (mB (fiP mo od ln fl us t pt a al T))) ∧ (∃ P1 : Nat → Int32, M1 pa = some (308, .inr (0, 16, .inl P1))) ∧ mZ [308] M M1) := by
  refine CC.of rfl (Nat.le_of_ble_eq_true rfl) rfl (fun X C Tr => ?_)
  show V X 0 0 0 [some (.ref m), some (.int (nI t)), none, none] [] M
  have hx8 := hx
  obtain ⟨hx0, hx1, hx2, hx3, hxq, hxt⟩ := hx
  have hT16 := hok.T16
  have hm4 := hok.m4
  have ho3 := hok.o3
  have hq24 := hok.q24
  refine s_aload_n C 1 dX7_isFirst_0 rfl rfl ?_
  refine s_invV C 4 0 0 [] (mRv_of hO rfl) dX7_isFirst_1 rfl m_X7_90 (n_findPlaces hO hS hx8 hok hSo hSn hsr hQ hQa hP h24 (fun _ => hab)) rfl rfl rfl ⟨by decide, by decide⟩ (Nat.le_of_ble_eq_true rfl) (by omega) (by omega) ?_
  rintro _ M1 ⟨rfl, ⟨P1, hP1, hpp⟩, hFp⟩
  dsimp only [Option.toList, List.cons_append, List.nil_append]
  have hO := hFp.at hO (by decide)
  have hS := hFp.at hS (by decide)
  have hSo := hFp.at hSo (by decide)
  have hSn := hFp.at hSn (by decide)
  have hQ := hFp.at hQ (by decide)
  have hP := hP1
  have hpt2 : P1 t = nI pt := by rw [hpp t ht]; unfold ppO; rw [if_neg (by omega), hpt]; rfl
  have hpt3 := plc_26 (mo := mo) (a := a) (al := al) (hok.V t ht) pt hpt
  refine s_iconst C 5 (nI 1) dX7_isFirst_4 rfl (by decide) ?_
  refine s_istore_n C 6 dX7_isFirst_5 rfl rfl rfl ?_
  dsimp only [List.set]
  refine s_iconst C 7 (nI 0) dX7_isFirst_6 rfl (by decide) ?_
  refine s_istore_n C 8 dX7_isFirst_7 rfl rfl rfl ?_
  dsimp only [List.set]
  suffices lp8 : ∀ (fu8 : Nat) (u : Nat) (b : Bool), T - u < fu8 → u ≤ T → b = fiP mo od ln fl us t pt a al u → V X 0 0 8 [some (.ref m), some (.int (nI t)), some (.int (mB b)), some (.int (nI u))] [] M1 from lp8 (T + 1) 0 true (by omega) (by omega) (by unfold fiP; simp)
  intro fu8
  induction fu8 with
  | zero => intro u b hu0 hu hb; omega
  | succ fu8 ih8 =>
    intro u b hu0 hu hb
    refine s_iload_n C 9 dX7_isFirst_8 rfl rfl ?_
    refine s_aload_n C 10 dX7_isFirst_9 rfl rfl ?_
    refine s_getf C 13 dX7_isFirst_10 rfl f_X7_7 hO rfl ?_
    refine s_iconst C 14 (nI 0) dX7_isFirst_13 rfl (by decide) ?_
    refine s_iald C 15 dX7_isFirst_14 rfl hS (by omega) (by omega) ?_
    rw [hx0]
    refine s_icmp_geN C 59 18 dX7_isFirst_15 (by decide) rfl (by omega) (by omega) (fun z15 => ?_) (fun z15 => ?_)
    · skip
      have hz : b = fiP mo od ln fl us t pt a al T := by rw [hb, show u = T by omega]
      refine s_iload_n C 60 dX7_isFirst_59 rfl rfl ?_
      exact s_zret C dX7_isFirst_60 Tr rfl (mB_z _) ⟨by rw [hz], ⟨_, hP⟩, hFp⟩
    · skip
      refine s_iload_n C 19 dX7_isFirst_18 rfl rfl ?_
      refine s_if_eqB C 51 22 dX7_isFirst_19 (by decide) rfl (fun z19 => ?_) (fun z19 => ?_)
      · skip
        have hst : fiP mo od ln fl us t pt a al (u + 1) = false := fiP_no (by rw [← hb]; exact z19) (Nat.le_succ u)
        refine s_iconst C 52 (nI 0) dX7_isFirst_51 rfl (by decide) ?_
        refine s_istore_n C 53 dX7_isFirst_52 rfl rfl rfl ?_
        dsimp only [List.set]
        refine s_iinc C 56 (nI (u + 1)) dX7_isFirst_53 rfl rfl (by rw [← nI_add]; rfl) rfl ?_
        dsimp only [List.set]
        refine s_goto C 8 dX7_isFirst_56 (by decide) ?_
        exact ih8 (u + 1) false (by omega) (by omega) (by rw [hst])
      · skip
        refine s_iload_n C 23 dX7_isFirst_22 rfl rfl ?_
        refine s_iload_n C 24 dX7_isFirst_23 rfl rfl ?_
        refine s_icmp_eqN C 47 27 dX7_isFirst_24 (by decide) rfl (by omega) (by omega) (fun z24 => ?_) (fun z24 => ?_)
        · skip
          have hst : fiP mo od ln fl us t pt a al (u + 1) = true := by rw [fiP_skip (Or.inl z24), ← hb]; exact z19
          refine s_iconst C 48 (nI 1) dX7_isFirst_47 rfl (by decide) ?_
          refine s_goto C 52 dX7_isFirst_48 (by decide) ?_
          refine s_istore_n C 53 dX7_isFirst_52 rfl rfl rfl ?_
          dsimp only [List.set]
          refine s_iinc C 56 (nI (u + 1)) dX7_isFirst_53 rfl rfl (by rw [← nI_add]; rfl) rfl ?_
          dsimp only [List.set]
          refine s_goto C 8 dX7_isFirst_56 (by decide) ?_
          exact ih8 (u + 1) true (by omega) (by omega) (by rw [hst])
        · skip
          have hpu : P1 u = oI (plc mo (ln u) (1 + cnB (fl u) (ln u)) (fl u) (iniF (fl u) (ln u)) a al) := by rw [hpp u (by omega)]; unfold ppO; rw [if_neg (by omega)]
          have hp26 := plc_26 (mo := mo) (a := a) (al := al) (hok.V u (by omega))
          refine s_aload_n C 28 dX7_isFirst_27 rfl rfl ?_
          refine s_getf C 31 dX7_isFirst_28 rfl f_X7_31 hO rfl ?_
          refine s_iload_n C 32 dX7_isFirst_31 rfl rfl ?_
          refine s_iald C 33 dX7_isFirst_32 rfl hP (by omega) (by omega) ?_
          rw [hpu]
          refine s_bipush C 35 (-6) dX7_isFirst_33 rfl (by decide) ?_
          refine s_icmp_eq C 47 38 dX7_isFirst_35 (by decide) rfl (fun z35 => ?_) (fun z35 => ?_)
          · skip
            have hst : fiP mo od ln fl us t pt a al (u + 1) = true := by rw [fiP_skip (Or.inr ((oI_n (fun j hj => by have := hp26 j hj; omega)).mp z35)), ← hb]; exact z19
            refine s_iconst C 48 (nI 1) dX7_isFirst_47 rfl (by decide) ?_
            refine s_goto C 52 dX7_isFirst_48 (by decide) ?_
            refine s_istore_n C 53 dX7_isFirst_52 rfl rfl rfl ?_
            dsimp only [List.set]
            refine s_iinc C 56 (nI (u + 1)) dX7_isFirst_53 rfl rfl (by rw [← nI_add]; rfl) rfl ?_
            dsimp only [List.set]
            refine s_goto C 8 dX7_isFirst_56 (by decide) ?_
            exact ih8 (u + 1) true (by omega) (by omega) (by rw [hst])
          · skip
            obtain ⟨pu, hpu2⟩ : ∃ pu, plc mo (ln u) (1 + cnB (fl u) (ln u)) (fl u) (iniF (fl u) (ln u)) a al = some pu := by cases e : plc mo (ln u) (1 + cnB (fl u) (ln u)) (fl u) (iniF (fl u) (ln u)) a al with | none => exact absurd (by rw [e]; rfl) z35 | some p => exact ⟨p, rfl⟩
            have hpu3 : P1 u = nI pu := by rw [hpu, hpu2]; rfl
            have hpu4 := hp26 pu hpu2
            refine s_aload_n C 39 dX7_isFirst_38 rfl rfl ?_
            refine s_iload_n C 40 dX7_isFirst_39 rfl rfl ?_
            refine s_iload_n C 41 dX7_isFirst_40 rfl rfl ?_
            refine s_invV C 44 0 0 [] (mRv_of hO rfl) dX7_isFirst_41 rfl m_X7_96 (n_ahead hO hS hx8 hok hP (t := t) (u := u) (pt := pt) (pu := pu) ht (by omega) (fun e => z24 e.symm) hpt2 hpu3 (by omega) (by omega)) rfl rfl rfl ⟨by decide, by decide⟩ (Nat.le_of_ble_eq_true rfl) (by omega) (by omega) ?_
            rintro _ M2 ⟨rfl, rfl⟩
            dsimp only [Option.toList, List.cons_append, List.nil_append]
            refine s_if_eqB C 51 47 dX7_isFirst_44 (by decide) rfl (fun z44 => ?_) (fun z44 => ?_)
            · skip
              have hst : fiP mo od ln fl us t pt a al (u + 1) = false := by rw [fiP_one z24 hpu2, z44, Bool.and_false]
              refine s_iconst C 52 (nI 0) dX7_isFirst_51 rfl (by decide) ?_
              refine s_istore_n C 53 dX7_isFirst_52 rfl rfl rfl ?_
              dsimp only [List.set]
              refine s_iinc C 56 (nI (u + 1)) dX7_isFirst_53 rfl rfl (by rw [← nI_add]; rfl) rfl ?_
              dsimp only [List.set]
              refine s_goto C 8 dX7_isFirst_56 (by decide) ?_
              exact ih8 (u + 1) false (by omega) (by omega) (by rw [hst])
            · skip
              have hst : fiP mo od ln fl us t pt a al (u + 1) = true := by rw [fiP_one z24 hpu2, z44, Bool.and_true, ← hb]; exact z19
              refine s_iconst C 48 (nI 1) dX7_isFirst_47 rfl (by decide) ?_
              refine s_goto C 52 dX7_isFirst_48 (by decide) ?_
              refine s_istore_n C 53 dX7_isFirst_52 rfl rfl rfl ?_
              dsimp only [List.set]
              refine s_iinc C 56 (nI (u + 1)) dX7_isFirst_53 rfl rfl (by rw [← nI_add]; rfl) rfl ?_
              dsimp only [List.set]
              refine s_goto C 8 dX7_isFirst_56 (by decide) ?_
              exact ih8 (u + 1) true (by omega) (by omega) (by rw [hst])

set_option maxRecDepth 100000 in
set_option maxHeartbeats 4000000 in
theorem n_findKey {G : mG} {M : mM} {m sa ha c xa tl ra la qa al ka rm pa za wa ua ap nu be en : Nat} {fs fe cm : Int32} (hO : M m = some (300, .inl (8, nL sa ha c xa tl ra la qa al ka rm pa fs fe za wa ua ap cm nu be en))) {S : Nat → Int32} (hS : M sa = some (301, .inr (0, 444, .inl S))) {T mo od ql : Nat} {q : Nat → Int32} {ln : Nat → Nat} {fl : Nat → Nat → Int32} {us : Nat → Int32} (hx : SR S T mo od ql q ln fl us) (hok : okX T mo od ql q ln fl) {so sn : Nat → Int32} (hSo : M ra = some (304, .inr (0, 384, .inl so))) (hSn : M la = some (305, .inr (0, 16, .inl sn))) (hsr : srO so sn T mo ln fl) {Q : Nat → Int32} (hQ : M qa = some (306, .inr (0, 24, .inl Q))) {P : Nat → Int32} (hP : M pa = some (308, .inr (0, 16, .inl P))) {t : Nat} (ht : t < T) : CC G iX7_findPiece 0 0 [.ref m, .int (nI t), .int (nI 1)] M (fun r M1 => r = none ∧ (∃ al1, M1 m = some (300, .inl (8, nL sa ha c xa tl ra la qa al1 ka rm pa (fdS (kyN T mo ln fl t)) (fdL (kyN T mo ln fl t)) za wa ua ap cm nu be en))) ∧ (∃ Q1 : Nat → Int32, M1 qa = some (306, .inr (0, 24, .inl Q1))) ∧ (∃ P1 : Nat → Int32, M1 pa = some (308, .inr (0, 16, .inl P1))) ∧ mZ [300, 306, 308] M M1) := by
  refine CC.of rfl (Nat.le_of_ble_eq_true rfl) rfl (fun X C Tr => ?_)
  show V X 0 0 0 [some (.ref m), some (.int (nI t)), some (.int (nI 1)), none, none] [] M
  have hx8 := hx
  obtain ⟨hx0, hx1, hx2, hx3, hxq, hxt⟩ := hx
  have hT16 := hok.T16
  have hm4 := hok.m4
  have ho3 := hok.o3
  have hq24 := hok.q24
  have hsn24 := (hok.V t ht).sr (mo := mo)
  have hsnl := srN_le (mo := mo) (hok.V t ht)
  have hl24 := (hok.V t ht).2.1
  have hF : mZ [300, 306, 308] M M := mZ.rf
  have hB : ∀ s l, (pKb T mo ln fl t) s l = true → s < 25 ∧ 0 < l ∧ l ≤ 24 := fun s l hp => by have := pcB_b (pKb_c hp) (hok.V t ht); omega
  refine s_iconst C 1 (nI 1) dX7_findPiece_0 rfl (by decide) ?_
  refine s_istore_n C 2 dX7_findPiece_1 rfl rfl rfl ?_
  dsimp only [List.set]
  suffices lp2 : ∀ (fu2 : Nat) (l al9 : Nat) (Q9 P9 : Nat → Int32) (M9 : mM), srN mo (ln t) (fl t) + 2 - l < fu2 → 1 ≤ l → l ≤ srN mo (ln t) (fl t) + 1 → (∀ s2 l2, 0 < l2 → l2 < l → (pKb T mo ln fl t) s2 l2 = false) → M9 m = some (300, .inl (8, [.ref sa, .ref ha, .int (nI c), .ref xa, .int (nI tl), .ref ra, .ref la, .ref qa, .int (nI al9), .ref ka, .int (nI rm), .ref pa, .int fs, .int fe, .ref za, .ref wa, .ref ua, .int (nI ap), .int cm, .int (nI nu), .int (nI be), .int (nI en)])) → M9 sa = some (301, .inr (0, 444, .inl S)) → M9 ra = some (304, .inr (0, 384, .inl so)) → M9 la = some (305, .inr (0, 16, .inl sn)) → M9 qa = some (306, .inr (0, 24, .inl Q9)) → M9 pa = some (308, .inr (0, 16, .inl P9)) → mZ [300, 306, 308] M M9 → V X 0 0 2 [some (.ref m), some (.int (nI t)), some (.int (nI 1)), some (.int (nI l)), none] [] M9 from lp2 (srN mo (ln t) (fl t) + 2) 1 _ _ _ _ (by omega) (by omega) (by omega) (fun s2 l2 h1 h2 => by omega) hO hS hSo hSn hQ hP hF
  intro fu2
  induction fu2 with
  | zero => intro l al9 Q9 P9 M9 hl0 hl1 hl2 hno hO hS hSo hSn hQ hP hF; omega
  | succ fu2 ih2 =>
    intro l al9 Q9 P9 M9 hl0 hl1 hl2 hno hO hS hSo hSn hQ hP hF
    refine s_iload_n C 3 dX7_findPiece_2 rfl rfl ?_
    refine s_aload_n C 4 dX7_findPiece_3 rfl rfl ?_
    refine s_getf C 7 dX7_findPiece_4 rfl f_X7_22 hO rfl ?_
    refine s_iload_n C 8 dX7_findPiece_7 rfl rfl ?_
    refine s_iald C 9 dX7_findPiece_8 rfl hSn (by omega) (by omega) ?_
    rw [(hsr t (by omega)).1]
    refine s_icmp_gtN C 94 12 dX7_findPiece_9 (by decide) rfl (by omega) (by omega) (fun z9 => ?_) (fun z9 => ?_)
    · skip
      have hfd := fd_miss (bst_miss (P := (pKb T mo ln fl t)) (fun s2 l2 => by by_cases e : 0 < l2 ∧ l2 < l; (· exact hno s2 l2 e.1 e.2); exact pKb_big (by omega)) hB)
      refine s_aload_n C 95 dX7_findPiece_94 rfl rfl ?_
      refine s_bipush C 97 (-6) dX7_findPiece_95 rfl (by decide) ?_
      refine s_putU C 100 dX7_findPiece_97 rfl p_X7_110 hO (by first | decide | omega) rfl rfl rfl (fs' := [.ref sa, .ref ha, .int (nI c), .ref xa, .int (nI tl), .ref ra, .ref la, .ref qa, .int (nI al9), .ref ka, .int (nI rm), .ref pa, .int (-6), .int fe, .ref za, .ref wa, .ref ua, .int (nI ap), .int cm, .int (nI nu), .int (nI be), .int (nI en)]) rfl (fun M1 U2 => ?_)
      have hS := U2.o hO hS (by first | decide | omega)
      have hSo := U2.o hO hSo (by first | decide | omega)
      have hSn := U2.o hO hSn (by first | decide | omega)
      have hQ := U2.o hO hQ (by first | decide | omega)
      have hP := U2.o hO hP (by first | decide | omega)
      have hF := hF.put U2 hO (by first | decide | (simp; done) | (simp; omega) | (simp [*]; done))
      have hO := U2.s
      refine s_aload_n C 101 dX7_findPiece_100 rfl rfl ?_
      refine s_bipush C 103 (-6) dX7_findPiece_101 rfl (by decide) ?_
      refine s_putU C 106 dX7_findPiece_103 rfl p_X7_113 hO (by first | decide | omega) rfl rfl rfl (fs' := [.ref sa, .ref ha, .int (nI c), .ref xa, .int (nI tl), .ref ra, .ref la, .ref qa, .int (nI al9), .ref ka, .int (nI rm), .ref pa, .int (-6), .int (-6), .ref za, .ref wa, .ref ua, .int (nI ap), .int cm, .int (nI nu), .int (nI be), .int (nI en)]) rfl (fun M3 U4 => ?_)
      have hS := U4.o hO hS (by first | decide | omega)
      have hSo := U4.o hO hSo (by first | decide | omega)
      have hSn := U4.o hO hSn (by first | decide | omega)
      have hQ := U4.o hO hQ (by first | decide | omega)
      have hP := U4.o hO hP (by first | decide | omega)
      have hF := hF.put U4 hO (by first | decide | (simp; done) | (simp; omega) | (simp [*]; done))
      have hO := U4.s
      exact s_vret C dX7_findPiece_106 Tr rfl ⟨rfl, ⟨_, by unfold kyN; rw [hfd.1, hfd.2]; exact hO⟩, ⟨_, hQ⟩, ⟨_, hP⟩, hF⟩
    · skip
      refine s_iconst C 13 (nI 0) dX7_findPiece_12 rfl (by decide) ?_
      refine s_istore C 15 dX7_findPiece_13 rfl rfl rfl ?_
      dsimp only [List.set]
      suffices lp15 : ∀ (fu15 : Nat) (s al8 : Nat) (Q8 P8 : Nat → Int32) (M8 : mM), srN mo (ln t) (fl t) + 2 - s < fu15 → s ≤ srN mo (ln t) (fl t) + 1 → (∀ s2, s2 < s → (pKb T mo ln fl t) s2 l = false) → M8 m = some (300, .inl (8, [.ref sa, .ref ha, .int (nI c), .ref xa, .int (nI tl), .ref ra, .ref la, .ref qa, .int (nI al8), .ref ka, .int (nI rm), .ref pa, .int fs, .int fe, .ref za, .ref wa, .ref ua, .int (nI ap), .int cm, .int (nI nu), .int (nI be), .int (nI en)])) → M8 sa = some (301, .inr (0, 444, .inl S)) → M8 ra = some (304, .inr (0, 384, .inl so)) → M8 la = some (305, .inr (0, 16, .inl sn)) → M8 qa = some (306, .inr (0, 24, .inl Q8)) → M8 pa = some (308, .inr (0, 16, .inl P8)) → mZ [300, 306, 308] M M8 → V X 0 0 15 [some (.ref m), some (.int (nI t)), some (.int (nI 1)), some (.int (nI l)), some (.int (nI s))] [] M8 from lp15 (srN mo (ln t) (fl t) + 3) 0 _ _ _ _ (by omega) (by omega) (fun s2 h2 => by omega) hO hS hSo hSn hQ hP hF
      intro fu15
      induction fu15 with
      | zero => intro s al8 Q8 P8 M8 hs0 hs1 hns hO hS hSo hSn hQ hP hF; omega
      | succ fu15 ih15 =>
        intro s al8 Q8 P8 M8 hs0 hs1 hns hO hS hSo hSn hQ hP hF
        refine s_iload C 17 dX7_findPiece_15 rfl rfl ?_
        refine s_iload_n C 18 dX7_findPiece_17 rfl rfl ?_
        refine s_iaddN C 19 dX7_findPiece_18 rfl ?_
        refine s_aload_n C 20 dX7_findPiece_19 rfl rfl ?_
        refine s_getf C 23 dX7_findPiece_20 rfl f_X7_22 hO rfl ?_
        refine s_iload_n C 24 dX7_findPiece_23 rfl rfl ?_
        refine s_iald C 25 dX7_findPiece_24 rfl hSn (by omega) (by omega) ?_
        rw [(hsr t (by omega)).1]
        refine s_icmp_gtN C 88 28 dX7_findPiece_25 (by decide) rfl (by omega) (by omega) (fun z25 => ?_) (fun z25 => ?_)
        · skip
          refine s_iinc C 91 (nI (l + 1)) dX7_findPiece_88 rfl rfl (by rw [← nI_add]; rfl) rfl ?_
          dsimp only [List.set]
          refine s_goto C 2 dX7_findPiece_91 (by decide) ?_
          refine V.drop 4 ?_
          dsimp only [List.set]
          exact ih2 (l + 1) _ _ _ _ (by omega) (by omega) (by omega) (fun s2 l2 h1 h2 => by by_cases e : l2 = l; (· rw [e]; by_cases e2 : s2 < s; (· exact hns s2 e2); exact pKb_big (by omega)); exact hno s2 l2 h1 (by omega)) hO hS hSo hSn hQ hP hF
        · skip
          refine s_aload_n C 29 dX7_findPiece_28 rfl rfl ?_
          refine s_iload_n C 30 dX7_findPiece_29 rfl rfl ?_
          refine s_iload C 32 dX7_findPiece_30 rfl rfl ?_
          refine s_iload_n C 33 dX7_findPiece_32 rfl rfl ?_
          refine s_invV C 36 0 0 [] (mRv_of hO rfl) dX7_findPiece_33 rfl m_X7_75 (n_isPiece hO hS hx8 hok hSo hSn hsr (t := t) (s := s) (l := l) ht (by omega) (by omega) (by omega)) rfl rfl rfl ⟨by decide, by decide⟩ (Nat.le_of_ble_eq_true rfl) (by omega) (by omega) ?_
          rintro _ M5 ⟨rfl, rfl⟩
          dsimp only [Option.toList, List.cons_append, List.nil_append]
          refine s_if_eqB C 82 39 dX7_findPiece_36 (by decide) rfl (fun z36 => ?_) (fun z36 => ?_)
          · skip
            have hz : (pKb T mo ln fl t) s l = false := by unfold pKb; rw [z36]; rfl
            refine s_iinc C 85 (nI (s + 1)) dX7_findPiece_82 rfl rfl (by rw [← nI_add]; rfl) rfl ?_
            dsimp only [List.set]
            refine s_goto C 15 dX7_findPiece_85 (by decide) ?_
            exact ih15 (s + 1) _ _ _ _ (by omega) (by omega) (fun s2 h2 => by by_cases e : s2 = s; (· rw [e]; exact hz); exact hns s2 (by omega)) hO hS hSo hSn hQ hP hF
          · skip
            refine s_aload_n C 40 dX7_findPiece_39 rfl rfl ?_
            refine s_iload_n C 41 dX7_findPiece_40 rfl rfl ?_
            refine s_iload C 43 dX7_findPiece_41 rfl rfl ?_
            refine s_iload_n C 44 dX7_findPiece_43 rfl rfl ?_
            refine s_invV C 47 0 0 [] (mRv_of hO rfl) dX7_findPiece_44 rfl m_X7_99 (n_asks (us := us) hO hok hSo hSn hsr hQ ht (by omega)) rfl rfl rfl ⟨by decide, by decide⟩ (Nat.le_of_ble_eq_true rfl) (by omega) (by omega) ?_
            rintro _ M6 ⟨rfl, hO7, ⟨Q7, hQ7, hQa7⟩, hFa⟩
            dsimp only [Option.toList, List.cons_append, List.nil_append]
            have hS := hFa.at hS (by decide)
            have hSo := hFa.at hSo (by decide)
            have hSn := hFa.at hSn (by decide)
            have hP := hFa.at hP (by decide)
            have hO := hO7
            have hQ := hQ7
            have hF := hF.tr (hFa.mono (by decide))
            have ha7 : (fun k => srG mo (ln t) (fl t) (s + k)) (l - 1) ≠ nI 32 := by have h7 := z36; rw [pcB_iff (by omega) (by omega)] at h7; simp only [Bool.and_eq_true, decide_eq_true_eq] at h7; show srG mo (ln t) (fl t) (s + (l - 1)) ≠ nI 32; rw [show s + (l - 1) = s + l - 1 by omega]; exact h7.2
            refine s_iload_n C 48 dX7_findPiece_47 rfl rfl ?_
            refine s_if_eqN C 62 51 dX7_findPiece_48 (by decide) rfl (by omega) (fun z48 => ?_) (fun z48 => ?_)
            · skip
              omega
            · skip
              refine s_aload_n C 52 dX7_findPiece_51 rfl rfl ?_
              refine s_iload_n C 53 dX7_findPiece_52 rfl rfl ?_
              refine s_invV C 56 0 0 [] (mRv_of hO rfl) dX7_findPiece_53 rfl m_X7_103 (n_isAlone hO hS hx8 hok hSo hSn hsr hQ (a := (fun k => srG mo (ln t) (fl t) (s + k))) hQa7 ht (by omega) (by omega) ha7) rfl rfl rfl ⟨by decide, by decide⟩ (Nat.le_of_ble_eq_true rfl) (by omega) (by omega) ?_
              rintro _ M7 ⟨rfl, rfl⟩
              dsimp only [Option.toList, List.cons_append, List.nil_append]
              rw [alP_alo]
              refine s_if_eqB C 82 59 dX7_findPiece_56 (by decide) rfl (fun z56 => ?_) (fun z56 => ?_)
              · skip
                have hz : (pKb T mo ln fl t) s l = false := by unfold pKb; rw [z56, Bool.and_false]
                refine s_iinc C 85 (nI (s + 1)) dX7_findPiece_82 rfl rfl (by rw [← nI_add]; rfl) rfl ?_
                dsimp only [List.set]
                refine s_goto C 15 dX7_findPiece_85 (by decide) ?_
                exact ih15 (s + 1) _ _ _ _ (by omega) (by omega) (fun s2 h2 => by by_cases e : s2 = s; (· rw [e]; exact hz); exact hns s2 (by omega)) hO hS hSo hSn hQ hP hF
              · skip
                have hyes : (pKb T mo ln fl t) s l = true := by unfold pKb; rw [z36, z56]; rfl
                have hfd := fd_hit (by omega) (bst_hit (P := (pKb T mo ln fl t)) (by omega) hyes hno hns hB)
                refine s_goto C 70 dX7_findPiece_59 (by decide) ?_
                refine s_aload_n C 71 dX7_findPiece_70 rfl rfl ?_
                refine s_iload C 73 dX7_findPiece_71 rfl rfl ?_
                refine s_putU C 76 dX7_findPiece_73 rfl p_X7_110 hO (by first | decide | omega) rfl rfl rfl (fs' := [.ref sa, .ref ha, .int (nI c), .ref xa, .int (nI tl), .ref ra, .ref la, .ref qa, .int (nI l), .ref ka, .int (nI rm), .ref pa, .int (nI s), .int fe, .ref za, .ref wa, .ref ua, .int (nI ap), .int cm, .int (nI nu), .int (nI be), .int (nI en)]) rfl (fun M8 U9 => ?_)
                have hS := U9.o hO hS (by first | decide | omega)
                have hSo := U9.o hO hSo (by first | decide | omega)
                have hSn := U9.o hO hSn (by first | decide | omega)
                have hQ := U9.o hO hQ (by first | decide | omega)
                have hP := U9.o hO hP (by first | decide | omega)
                have hF := hF.put U9 hO (by first | decide | (simp; done) | (simp; omega) | (simp [*]; done))
                have hO := U9.s
                refine s_aload_n C 77 dX7_findPiece_76 rfl rfl ?_
                refine s_iload_n C 78 dX7_findPiece_77 rfl rfl ?_
                refine s_putU C 81 dX7_findPiece_78 rfl p_X7_113 hO (by first | decide | omega) rfl rfl rfl (fs' := [.ref sa, .ref ha, .int (nI c), .ref xa, .int (nI tl), .ref ra, .ref la, .ref qa, .int (nI l), .ref ka, .int (nI rm), .ref pa, .int (nI s), .int (nI l), .ref za, .ref wa, .ref ua, .int (nI ap), .int cm, .int (nI nu), .int (nI be), .int (nI en)]) rfl (fun M10 U11 => ?_)
                have hS := U11.o hO hS (by first | decide | omega)
                have hSo := U11.o hO hSo (by first | decide | omega)
                have hSn := U11.o hO hSn (by first | decide | omega)
                have hQ := U11.o hO hQ (by first | decide | omega)
                have hP := U11.o hO hP (by first | decide | omega)
                have hF := hF.put U11 hO (by first | decide | (simp; done) | (simp; omega) | (simp [*]; done))
                have hO := U11.s
                exact s_vret C dX7_findPiece_81 Tr rfl ⟨rfl, ⟨_, by unfold kyN; rw [hfd.1, hfd.2]; exact hO⟩, ⟨_, hQ⟩, ⟨_, hP⟩, hF⟩

set_option maxRecDepth 100000 in
set_option maxHeartbeats 4000000 in
theorem n_findShort {G : mG} {M : mM} {m sa ha c xa tl ra la qa al ka rm pa za wa ua ap nu be en : Nat} {fs fe cm : Int32} (hO : M m = some (300, .inl (8, nL sa ha c xa tl ra la qa al ka rm pa fs fe za wa ua ap cm nu be en))) {S : Nat → Int32} (hS : M sa = some (301, .inr (0, 444, .inl S))) {T mo od ql : Nat} {q : Nat → Int32} {ln : Nat → Nat} {fl : Nat → Nat → Int32} {us : Nat → Int32} (hx : SR S T mo od ql q ln fl us) (hok : okX T mo od ql q ln fl) {so sn : Nat → Int32} (hSo : M ra = some (304, .inr (0, 384, .inl so))) (hSn : M la = some (305, .inr (0, 16, .inl sn))) (hsr : srO so sn T mo ln fl) {Q : Nat → Int32} (hQ : M qa = some (306, .inr (0, 24, .inl Q))) {P : Nat → Int32} (hP : M pa = some (308, .inr (0, 16, .inl P))) {t : Nat} (ht : t < T) : CC G iX7_findPiece 0 0 [.ref m, .int (nI t), .int (nI 0)] M (fun r M1 => r = none ∧ (∃ al1, M1 m = some (300, .inl (8, nL sa ha c xa tl ra la qa al1 ka rm pa (fdS (shN T mo od ln fl us t)) (fdL (shN T mo od ln fl us t)) za wa ua ap cm nu be en))) ∧ (∃ Q1 : Nat → Int32, M1 qa = some (306, .inr (0, 24, .inl Q1))) ∧ (∃ P1 : Nat → Int32, M1 pa = some (308, .inr (0, 16, .inl P1))) ∧ mZ [300, 306, 308] M M1) := by
  refine CC.of rfl (Nat.le_of_ble_eq_true rfl) rfl (fun X C Tr => ?_)
  show V X 0 0 0 [some (.ref m), some (.int (nI t)), some (.int (nI 0)), none, none] [] M
  have hx8 := hx
  obtain ⟨hx0, hx1, hx2, hx3, hxq, hxt⟩ := hx
  have hT16 := hok.T16
  have hm4 := hok.m4
  have ho3 := hok.o3
  have hq24 := hok.q24
  have hsn24 := (hok.V t ht).sr (mo := mo)
  have hsnl := srN_le (mo := mo) (hok.V t ht)
  have hl24 := (hok.V t ht).2.1
  have hF : mZ [300, 306, 308] M M := mZ.rf
  have hB : ∀ s l, (pSb T mo od ln fl us t) s l = true → s < 25 ∧ 0 < l ∧ l ≤ 24 := fun s l hp => by have := pcB_b (pSb_c hp) (hok.V t ht); omega
  refine s_iconst C 1 (nI 1) dX7_findPiece_0 rfl (by decide) ?_
  refine s_istore_n C 2 dX7_findPiece_1 rfl rfl rfl ?_
  dsimp only [List.set]
  suffices lp2 : ∀ (fu2 : Nat) (l al9 : Nat) (Q9 P9 : Nat → Int32) (M9 : mM), srN mo (ln t) (fl t) + 2 - l < fu2 → 1 ≤ l → l ≤ srN mo (ln t) (fl t) + 1 → (∀ s2 l2, 0 < l2 → l2 < l → (pSb T mo od ln fl us t) s2 l2 = false) → M9 m = some (300, .inl (8, [.ref sa, .ref ha, .int (nI c), .ref xa, .int (nI tl), .ref ra, .ref la, .ref qa, .int (nI al9), .ref ka, .int (nI rm), .ref pa, .int fs, .int fe, .ref za, .ref wa, .ref ua, .int (nI ap), .int cm, .int (nI nu), .int (nI be), .int (nI en)])) → M9 sa = some (301, .inr (0, 444, .inl S)) → M9 ra = some (304, .inr (0, 384, .inl so)) → M9 la = some (305, .inr (0, 16, .inl sn)) → M9 qa = some (306, .inr (0, 24, .inl Q9)) → M9 pa = some (308, .inr (0, 16, .inl P9)) → mZ [300, 306, 308] M M9 → V X 0 0 2 [some (.ref m), some (.int (nI t)), some (.int (nI 0)), some (.int (nI l)), none] [] M9 from lp2 (srN mo (ln t) (fl t) + 2) 1 _ _ _ _ (by omega) (by omega) (by omega) (fun s2 l2 h1 h2 => by omega) hO hS hSo hSn hQ hP hF
  intro fu2
  induction fu2 with
  | zero => intro l al9 Q9 P9 M9 hl0 hl1 hl2 hno hO hS hSo hSn hQ hP hF; omega
  | succ fu2 ih2 =>
    intro l al9 Q9 P9 M9 hl0 hl1 hl2 hno hO hS hSo hSn hQ hP hF
    refine s_iload_n C 3 dX7_findPiece_2 rfl rfl ?_
    refine s_aload_n C 4 dX7_findPiece_3 rfl rfl ?_
    refine s_getf C 7 dX7_findPiece_4 rfl f_X7_22 hO rfl ?_
    refine s_iload_n C 8 dX7_findPiece_7 rfl rfl ?_
    refine s_iald C 9 dX7_findPiece_8 rfl hSn (by omega) (by omega) ?_
    rw [(hsr t (by omega)).1]
    refine s_icmp_gtN C 94 12 dX7_findPiece_9 (by decide) rfl (by omega) (by omega) (fun z9 => ?_) (fun z9 => ?_)
    · skip
      have hfd := fd_miss (bst_miss (P := (pSb T mo od ln fl us t)) (fun s2 l2 => by by_cases e : 0 < l2 ∧ l2 < l; (· exact hno s2 l2 e.1 e.2); exact pSb_big (by omega)) hB)
      refine s_aload_n C 95 dX7_findPiece_94 rfl rfl ?_
      refine s_bipush C 97 (-6) dX7_findPiece_95 rfl (by decide) ?_
      refine s_putU C 100 dX7_findPiece_97 rfl p_X7_110 hO (by first | decide | omega) rfl rfl rfl (fs' := [.ref sa, .ref ha, .int (nI c), .ref xa, .int (nI tl), .ref ra, .ref la, .ref qa, .int (nI al9), .ref ka, .int (nI rm), .ref pa, .int (-6), .int fe, .ref za, .ref wa, .ref ua, .int (nI ap), .int cm, .int (nI nu), .int (nI be), .int (nI en)]) rfl (fun M1 U2 => ?_)
      have hS := U2.o hO hS (by first | decide | omega)
      have hSo := U2.o hO hSo (by first | decide | omega)
      have hSn := U2.o hO hSn (by first | decide | omega)
      have hQ := U2.o hO hQ (by first | decide | omega)
      have hP := U2.o hO hP (by first | decide | omega)
      have hF := hF.put U2 hO (by first | decide | (simp; done) | (simp; omega) | (simp [*]; done))
      have hO := U2.s
      refine s_aload_n C 101 dX7_findPiece_100 rfl rfl ?_
      refine s_bipush C 103 (-6) dX7_findPiece_101 rfl (by decide) ?_
      refine s_putU C 106 dX7_findPiece_103 rfl p_X7_113 hO (by first | decide | omega) rfl rfl rfl (fs' := [.ref sa, .ref ha, .int (nI c), .ref xa, .int (nI tl), .ref ra, .ref la, .ref qa, .int (nI al9), .ref ka, .int (nI rm), .ref pa, .int (-6), .int (-6), .ref za, .ref wa, .ref ua, .int (nI ap), .int cm, .int (nI nu), .int (nI be), .int (nI en)]) rfl (fun M3 U4 => ?_)
      have hS := U4.o hO hS (by first | decide | omega)
      have hSo := U4.o hO hSo (by first | decide | omega)
      have hSn := U4.o hO hSn (by first | decide | omega)
      have hQ := U4.o hO hQ (by first | decide | omega)
      have hP := U4.o hO hP (by first | decide | omega)
      have hF := hF.put U4 hO (by first | decide | (simp; done) | (simp; omega) | (simp [*]; done))
      have hO := U4.s
      exact s_vret C dX7_findPiece_106 Tr rfl ⟨rfl, ⟨_, by unfold shN; rw [hfd.1, hfd.2]; exact hO⟩, ⟨_, hQ⟩, ⟨_, hP⟩, hF⟩
    · skip
      refine s_iconst C 13 (nI 0) dX7_findPiece_12 rfl (by decide) ?_
      refine s_istore C 15 dX7_findPiece_13 rfl rfl rfl ?_
      dsimp only [List.set]
      suffices lp15 : ∀ (fu15 : Nat) (s al8 : Nat) (Q8 P8 : Nat → Int32) (M8 : mM), srN mo (ln t) (fl t) + 2 - s < fu15 → s ≤ srN mo (ln t) (fl t) + 1 → (∀ s2, s2 < s → (pSb T mo od ln fl us t) s2 l = false) → M8 m = some (300, .inl (8, [.ref sa, .ref ha, .int (nI c), .ref xa, .int (nI tl), .ref ra, .ref la, .ref qa, .int (nI al8), .ref ka, .int (nI rm), .ref pa, .int fs, .int fe, .ref za, .ref wa, .ref ua, .int (nI ap), .int cm, .int (nI nu), .int (nI be), .int (nI en)])) → M8 sa = some (301, .inr (0, 444, .inl S)) → M8 ra = some (304, .inr (0, 384, .inl so)) → M8 la = some (305, .inr (0, 16, .inl sn)) → M8 qa = some (306, .inr (0, 24, .inl Q8)) → M8 pa = some (308, .inr (0, 16, .inl P8)) → mZ [300, 306, 308] M M8 → V X 0 0 15 [some (.ref m), some (.int (nI t)), some (.int (nI 0)), some (.int (nI l)), some (.int (nI s))] [] M8 from lp15 (srN mo (ln t) (fl t) + 3) 0 _ _ _ _ (by omega) (by omega) (fun s2 h2 => by omega) hO hS hSo hSn hQ hP hF
      intro fu15
      induction fu15 with
      | zero => intro s al8 Q8 P8 M8 hs0 hs1 hns hO hS hSo hSn hQ hP hF; omega
      | succ fu15 ih15 =>
        intro s al8 Q8 P8 M8 hs0 hs1 hns hO hS hSo hSn hQ hP hF
        refine s_iload C 17 dX7_findPiece_15 rfl rfl ?_
        refine s_iload_n C 18 dX7_findPiece_17 rfl rfl ?_
        refine s_iaddN C 19 dX7_findPiece_18 rfl ?_
        refine s_aload_n C 20 dX7_findPiece_19 rfl rfl ?_
        refine s_getf C 23 dX7_findPiece_20 rfl f_X7_22 hO rfl ?_
        refine s_iload_n C 24 dX7_findPiece_23 rfl rfl ?_
        refine s_iald C 25 dX7_findPiece_24 rfl hSn (by omega) (by omega) ?_
        rw [(hsr t (by omega)).1]
        refine s_icmp_gtN C 88 28 dX7_findPiece_25 (by decide) rfl (by omega) (by omega) (fun z25 => ?_) (fun z25 => ?_)
        · skip
          refine s_iinc C 91 (nI (l + 1)) dX7_findPiece_88 rfl rfl (by rw [← nI_add]; rfl) rfl ?_
          dsimp only [List.set]
          refine s_goto C 2 dX7_findPiece_91 (by decide) ?_
          refine V.drop 4 ?_
          dsimp only [List.set]
          exact ih2 (l + 1) _ _ _ _ (by omega) (by omega) (by omega) (fun s2 l2 h1 h2 => by by_cases e : l2 = l; (· rw [e]; by_cases e2 : s2 < s; (· exact hns s2 e2); exact pSb_big (by omega)); exact hno s2 l2 h1 (by omega)) hO hS hSo hSn hQ hP hF
        · skip
          refine s_aload_n C 29 dX7_findPiece_28 rfl rfl ?_
          refine s_iload_n C 30 dX7_findPiece_29 rfl rfl ?_
          refine s_iload C 32 dX7_findPiece_30 rfl rfl ?_
          refine s_iload_n C 33 dX7_findPiece_32 rfl rfl ?_
          refine s_invV C 36 0 0 [] (mRv_of hO rfl) dX7_findPiece_33 rfl m_X7_75 (n_isPiece hO hS hx8 hok hSo hSn hsr (t := t) (s := s) (l := l) ht (by omega) (by omega) (by omega)) rfl rfl rfl ⟨by decide, by decide⟩ (Nat.le_of_ble_eq_true rfl) (by omega) (by omega) ?_
          rintro _ M5 ⟨rfl, rfl⟩
          dsimp only [Option.toList, List.cons_append, List.nil_append]
          refine s_if_eqB C 82 39 dX7_findPiece_36 (by decide) rfl (fun z36 => ?_) (fun z36 => ?_)
          · skip
            have hz : (pSb T mo od ln fl us t) s l = false := by unfold pSb; rw [z36]; rfl
            refine s_iinc C 85 (nI (s + 1)) dX7_findPiece_82 rfl rfl (by rw [← nI_add]; rfl) rfl ?_
            dsimp only [List.set]
            refine s_goto C 15 dX7_findPiece_85 (by decide) ?_
            exact ih15 (s + 1) _ _ _ _ (by omega) (by omega) (fun s2 h2 => by by_cases e : s2 = s; (· rw [e]; exact hz); exact hns s2 (by omega)) hO hS hSo hSn hQ hP hF
          · skip
            refine s_aload_n C 40 dX7_findPiece_39 rfl rfl ?_
            refine s_iload_n C 41 dX7_findPiece_40 rfl rfl ?_
            refine s_iload C 43 dX7_findPiece_41 rfl rfl ?_
            refine s_iload_n C 44 dX7_findPiece_43 rfl rfl ?_
            refine s_invV C 47 0 0 [] (mRv_of hO rfl) dX7_findPiece_44 rfl m_X7_99 (n_asks (us := us) hO hok hSo hSn hsr hQ ht (by omega)) rfl rfl rfl ⟨by decide, by decide⟩ (Nat.le_of_ble_eq_true rfl) (by omega) (by omega) ?_
            rintro _ M6 ⟨rfl, hO7, ⟨Q7, hQ7, hQa7⟩, hFa⟩
            dsimp only [Option.toList, List.cons_append, List.nil_append]
            have hS := hFa.at hS (by decide)
            have hSo := hFa.at hSo (by decide)
            have hSn := hFa.at hSn (by decide)
            have hP := hFa.at hP (by decide)
            have hO := hO7
            have hQ := hQ7
            have hF := hF.tr (hFa.mono (by decide))
            have ha7 : (fun k => srG mo (ln t) (fl t) (s + k)) (l - 1) ≠ nI 32 := by have h7 := z36; rw [pcB_iff (by omega) (by omega)] at h7; simp only [Bool.and_eq_true, decide_eq_true_eq] at h7; show srG mo (ln t) (fl t) (s + (l - 1)) ≠ nI 32; rw [show s + (l - 1) = s + l - 1 by omega]; exact h7.2
            refine s_iload_n C 48 dX7_findPiece_47 rfl rfl ?_
            refine s_if_eqN C 62 51 dX7_findPiece_48 (by decide) rfl (by omega) (fun z48 => ?_) (fun z48 => ?_)
            · skip
              refine s_aload_n C 63 dX7_findPiece_62 rfl rfl ?_
              refine s_iload_n C 64 dX7_findPiece_63 rfl rfl ?_
              obtain ⟨pt, hpt, -⟩ := pl2_own z36
              refine s_invV C 67 0 0 [] (mRv_of hO rfl) dX7_findPiece_64 rfl m_X7_107 (n_isFirst hO hS hx8 hok hSo hSn hsr hQ (a := (fun k => srG mo (ln t) (fl t) (s + k))) hQa7 hP ht (by omega) (by omega) ha7 hpt) rfl rfl rfl ⟨by decide, by decide⟩ (Nat.le_of_ble_eq_true rfl) (by omega) (by omega) ?_
              rintro _ M7 ⟨rfl, ⟨P7, hP7⟩, hFi⟩
              dsimp only [Option.toList, List.cons_append, List.nil_append]
              have hO := hFi.at hO (by decide)
              have hS := hFi.at hS (by decide)
              have hSo := hFi.at hSo (by decide)
              have hSn := hFi.at hSn (by decide)
              have hQ := hFi.at hQ (by decide)
              have hP := hP7
              have hF := hF.tr (hFi.mono (by decide))
              rw [fiP_fir hok ht hpt]
              refine s_if_eqB C 82 70 dX7_findPiece_67 (by decide) rfl (fun z67 => ?_) (fun z67 => ?_)
              · skip
                have hz : (pSb T mo od ln fl us t) s l = false := by unfold pSb; rw [z67, Bool.and_false]
                refine s_iinc C 85 (nI (s + 1)) dX7_findPiece_82 rfl rfl (by rw [← nI_add]; rfl) rfl ?_
                dsimp only [List.set]
                refine s_goto C 15 dX7_findPiece_85 (by decide) ?_
                exact ih15 (s + 1) _ _ _ _ (by omega) (by omega) (fun s2 h2 => by by_cases e : s2 = s; (· rw [e]; exact hz); exact hns s2 (by omega)) hO hS hSo hSn hQ hP hF
              · skip
                have hyes : (pSb T mo od ln fl us t) s l = true := by unfold pSb; rw [z36, z67]; rfl
                have hfd := fd_hit (by omega) (bst_hit (P := (pSb T mo od ln fl us t)) (by omega) hyes hno hns hB)
                refine s_aload_n C 71 dX7_findPiece_70 rfl rfl ?_
                refine s_iload C 73 dX7_findPiece_71 rfl rfl ?_
                refine s_putU C 76 dX7_findPiece_73 rfl p_X7_110 hO (by first | decide | omega) rfl rfl rfl (fs' := [.ref sa, .ref ha, .int (nI c), .ref xa, .int (nI tl), .ref ra, .ref la, .ref qa, .int (nI l), .ref ka, .int (nI rm), .ref pa, .int (nI s), .int fe, .ref za, .ref wa, .ref ua, .int (nI ap), .int cm, .int (nI nu), .int (nI be), .int (nI en)]) rfl (fun M8 U9 => ?_)
                have hS := U9.o hO hS (by first | decide | omega)
                have hSo := U9.o hO hSo (by first | decide | omega)
                have hSn := U9.o hO hSn (by first | decide | omega)
                have hQ := U9.o hO hQ (by first | decide | omega)
                have hP := U9.o hO hP (by first | decide | omega)
                have hF := hF.put U9 hO (by first | decide | (simp; done) | (simp; omega) | (simp [*]; done))
                have hO := U9.s
                refine s_aload_n C 77 dX7_findPiece_76 rfl rfl ?_
                refine s_iload_n C 78 dX7_findPiece_77 rfl rfl ?_
                refine s_putU C 81 dX7_findPiece_78 rfl p_X7_113 hO (by first | decide | omega) rfl rfl rfl (fs' := [.ref sa, .ref ha, .int (nI c), .ref xa, .int (nI tl), .ref ra, .ref la, .ref qa, .int (nI l), .ref ka, .int (nI rm), .ref pa, .int (nI s), .int (nI l), .ref za, .ref wa, .ref ua, .int (nI ap), .int cm, .int (nI nu), .int (nI be), .int (nI en)]) rfl (fun M10 U11 => ?_)
                have hS := U11.o hO hS (by first | decide | omega)
                have hSo := U11.o hO hSo (by first | decide | omega)
                have hSn := U11.o hO hSn (by first | decide | omega)
                have hQ := U11.o hO hQ (by first | decide | omega)
                have hP := U11.o hO hP (by first | decide | omega)
                have hF := hF.put U11 hO (by first | decide | (simp; done) | (simp; omega) | (simp [*]; done))
                have hO := U11.s
                exact s_vret C dX7_findPiece_81 Tr rfl ⟨rfl, ⟨_, by unfold shN; rw [hfd.1, hfd.2]; exact hO⟩, ⟨_, hQ⟩, ⟨_, hP⟩, hF⟩
            · skip
              omega

set_option maxRecDepth 100000 in
set_option maxHeartbeats 4000000 in
theorem n_findKeys {G : mG} {M : mM} {m sa ha c xa tl ra la qa al ka rm pa za wa ua ap nu be en : Nat} {fs fe cm : Int32} (hO : M m = some (300, .inl (8, nL sa ha c xa tl ra la qa al ka rm pa fs fe za wa ua ap cm nu be en))) {S : Nat → Int32} (hS : M sa = some (301, .inr (0, 444, .inl S))) {T mo od ql : Nat} {q : Nat → Int32} {ln : Nat → Nat} {fl : Nat → Nat → Int32} {us : Nat → Int32} (hx : SR S T mo od ql q ln fl us) (hok : okX T mo od ql q ln fl) {so sn : Nat → Int32} (hSo : M ra = some (304, .inr (0, 384, .inl so))) (hSn : M la = some (305, .inr (0, 16, .inl sn))) {Q : Nat → Int32} (hQ : M qa = some (306, .inr (0, 24, .inl Q))) {P : Nat → Int32} (hP : M pa = some (308, .inr (0, 16, .inl P))) {Z W : Nat → Int32} (hZ : M za = some (309, .inr (0, 16, .inl Z))) (hW : M wa = some (310, .inr (0, 16, .inl W))) : CC G iX7_findKeys 0 0 [.ref m] M (fun r M1 => r = none ∧ (∃ al1 fs1 fe1, M1 m = some (300, .inl (8, nL sa ha c xa tl ra la qa al1 ka rm pa fs1 fe1 za wa ua ap cm nu be en))) ∧ (∃ so1 sn1 : Nat → Int32, M1 ra = some (304, .inr (0, 384, .inl so1)) ∧ M1 la = some (305, .inr (0, 16, .inl sn1)) ∧ srO so1 sn1 T mo ln fl) ∧ (∃ Q1 : Nat → Int32, M1 qa = some (306, .inr (0, 24, .inl Q1))) ∧ (∃ P1 : Nat → Int32, M1 pa = some (308, .inr (0, 16, .inl P1))) ∧ (∃ Z1 W1 : Nat → Int32, M1 za = some (309, .inr (0, 16, .inl Z1)) ∧ M1 wa = some (310, .inr (0, 16, .inl W1)) ∧ ∀ u, u < T → Z1 u = fdS (kyN T mo ln fl u) ∧ W1 u = fdL (kyN T mo ln fl u)) ∧ mZ [300, 304, 305, 306, 308, 309, 310] M M1) := by
  refine CC.of rfl (Nat.le_of_ble_eq_true rfl) rfl (fun X C Tr => ?_)
  show V X 0 0 0 [some (.ref m), none] [] M
  have hx8 := hx
  obtain ⟨hx0, hx1, hx2, hx3, hxq, hxt⟩ := hx
  have hT16 := hok.T16
  have hm4 := hok.m4
  have ho3 := hok.o3
  have hq24 := hok.q24
  have hF : mZ [300, 304, 305, 306, 308, 309, 310] M M := mZ.rf
  refine s_aload_n C 1 dX7_findKeys_0 rfl rfl ?_
  refine s_invV C 4 0 0 [] (mRv_of hO rfl) dX7_findKeys_1 rfl m_X7_87 (n_findSources hO hS hx8 hok hSo hSn) rfl rfl rfl ⟨by decide, by decide⟩ (Nat.le_of_ble_eq_true rfl) (by omega) (by omega) ?_
  rintro _ M1 ⟨rfl, ⟨so7, sn7, hSo7, hSn7, hsr⟩, hFs⟩
  dsimp only [Option.toList, List.cons_append, List.nil_append]
  have hO := hFs.at hO (by decide)
  have hS := hFs.at hS (by decide)
  have hQ := hFs.at hQ (by decide)
  have hP := hFs.at hP (by decide)
  have hZ := hFs.at hZ (by decide)
  have hW := hFs.at hW (by decide)
  have hSo := hSo7
  have hSn := hSn7
  have hF := hF.tr (hFs.mono (by decide))
  refine s_iconst C 5 (nI 0) dX7_findKeys_4 rfl (by decide) ?_
  refine s_istore_n C 6 dX7_findKeys_5 rfl rfl rfl ?_
  dsimp only [List.set]
  suffices lp6 : ∀ (fu6 : Nat) (t al9 : Nat) (fs9 fe9 : Int32) (Q9 P9 Z9 W9 : Nat → Int32) (M9 : mM), T - t < fu6 → t ≤ T → (∀ u, u < t → Z9 u = fdS (kyN T mo ln fl u) ∧ W9 u = fdL (kyN T mo ln fl u)) → M9 m = some (300, .inl (8, [.ref sa, .ref ha, .int (nI c), .ref xa, .int (nI tl), .ref ra, .ref la, .ref qa, .int (nI al9), .ref ka, .int (nI rm), .ref pa, .int fs9, .int fe9, .ref za, .ref wa, .ref ua, .int (nI ap), .int cm, .int (nI nu), .int (nI be), .int (nI en)])) → M9 sa = some (301, .inr (0, 444, .inl S)) → M9 ra = some (304, .inr (0, 384, .inl so7)) → M9 la = some (305, .inr (0, 16, .inl sn7)) → M9 qa = some (306, .inr (0, 24, .inl Q9)) → M9 pa = some (308, .inr (0, 16, .inl P9)) → M9 za = some (309, .inr (0, 16, .inl Z9)) → M9 wa = some (310, .inr (0, 16, .inl W9)) → mZ [300, 304, 305, 306, 308, 309, 310] M M9 → V X 0 0 6 [some (.ref m), some (.int (nI t))] [] M9 from lp6 (T + 1) 0 _ _ _ _ _ _ _ _ (by omega) (by omega) (fun u hu => by omega) hO hS hSo hSn hQ hP hZ hW hF
  intro fu6
  induction fu6 with
  | zero => intro t al9 fs9 fe9 Q9 P9 Z9 W9 M9 ht0 ht hzz hO hS hSo hSn hQ hP hZ hW hF; omega
  | succ fu6 ih6 =>
    intro t al9 fs9 fe9 Q9 P9 Z9 W9 M9 ht0 ht hzz hO hS hSo hSn hQ hP hZ hW hF
    refine s_iload_n C 7 dX7_findKeys_6 rfl rfl ?_
    refine s_aload_n C 8 dX7_findKeys_7 rfl rfl ?_
    refine s_getf C 11 dX7_findKeys_8 rfl f_X7_7 hO rfl ?_
    refine s_iconst C 12 (nI 0) dX7_findKeys_11 rfl (by decide) ?_
    refine s_iald C 13 dX7_findKeys_12 rfl hS (by omega) (by omega) ?_
    rw [hx0]
    refine s_icmp_geN C 48 16 dX7_findKeys_13 (by decide) rfl (by omega) (by omega) (fun z13 => ?_) (fun z13 => ?_)
    · skip
      exact s_vret C dX7_findKeys_48 Tr rfl ⟨rfl, ⟨_, _, _, hO⟩, ⟨_, _, hSo, hSn, hsr⟩, ⟨_, hQ⟩, ⟨_, hP⟩, ⟨_, _, hZ, hW, fun u hu => hzz u (by omega)⟩, hF⟩
    · skip
      refine s_aload_n C 17 dX7_findKeys_16 rfl rfl ?_
      refine s_iload_n C 18 dX7_findKeys_17 rfl rfl ?_
      refine s_iconst C 19 (nI 1) dX7_findKeys_18 rfl (by decide) ?_
      refine s_invV C 22 0 0 [] (mRv_of hO rfl) dX7_findKeys_19 rfl m_X7_116 (n_findKey hO hS hx8 hok hSo hSn hsr hQ hP (t := t) (by omega)) rfl rfl rfl ⟨by decide, by decide⟩ (Nat.le_of_ble_eq_true rfl) (by omega) (by omega) ?_
      rintro _ M2 ⟨rfl, hO7, ⟨Q7, hQ7⟩, ⟨P7, hP7⟩, hFp⟩
      dsimp only [Option.toList, List.cons_append, List.nil_append]
      have hS := hFp.at hS (by decide)
      have hSo := hFp.at hSo (by decide)
      have hSn := hFp.at hSn (by decide)
      have hZ := hFp.at hZ (by decide)
      have hW := hFp.at hW (by decide)
      obtain ⟨al7, hO⟩ := hO7
      have hQ := hQ7
      have hP := hP7
      have hF := hF.tr (hFp.mono (by decide))
      refine s_aload_n C 23 dX7_findKeys_22 rfl rfl ?_
      refine s_getf C 26 dX7_findKeys_23 rfl f_X7_34 hO rfl ?_
      refine s_iload_n C 27 dX7_findKeys_26 rfl rfl ?_
      refine s_aload_n C 28 dX7_findKeys_27 rfl rfl ?_
      refine s_getf C 31 dX7_findKeys_28 rfl f_X7_110 hO rfl ?_
      refine s_iastU C 32 dX7_findKeys_31 rfl hZ (by first | decide | omega) (by omega) (by omega) (fun M3 U4 => ?_)
      have hO := U4.o hZ hO (by first | decide | omega)
      have hS := U4.o hZ hS (by first | decide | omega)
      have hSo := U4.o hZ hSo (by first | decide | omega)
      have hSn := U4.o hZ hSn (by first | decide | omega)
      have hQ := U4.o hZ hQ (by first | decide | omega)
      have hP := U4.o hZ hP (by first | decide | omega)
      have hW := U4.o hZ hW (by first | decide | omega)
      have hF := hF.put U4 hZ (by first | decide | (simp; done) | (simp; omega) | (simp [*]; done))
      have hZ := U4.s
      refine s_aload_n C 33 dX7_findKeys_32 rfl rfl ?_
      refine s_getf C 36 dX7_findKeys_33 rfl f_X7_37 hO rfl ?_
      refine s_iload_n C 37 dX7_findKeys_36 rfl rfl ?_
      refine s_aload_n C 38 dX7_findKeys_37 rfl rfl ?_
      refine s_getf C 41 dX7_findKeys_38 rfl f_X7_113 hO rfl ?_
      refine s_iastU C 42 dX7_findKeys_41 rfl hW (by first | decide | omega) (by omega) (by omega) (fun M5 U6 => ?_)
      have hO := U6.o hW hO (by first | decide | omega)
      have hS := U6.o hW hS (by first | decide | omega)
      have hSo := U6.o hW hSo (by first | decide | omega)
      have hSn := U6.o hW hSn (by first | decide | omega)
      have hQ := U6.o hW hQ (by first | decide | omega)
      have hP := U6.o hW hP (by first | decide | omega)
      have hZ := U6.o hW hZ (by first | decide | omega)
      have hF := hF.put U6 hW (by first | decide | (simp; done) | (simp; omega) | (simp [*]; done))
      have hW := U6.s
      refine s_iinc C 45 (nI (t + 1)) dX7_findKeys_42 rfl rfl (by rw [← nI_add]; rfl) rfl ?_
      dsimp only [List.set]
      refine s_goto C 6 dX7_findKeys_45 (by decide) ?_
      exact ih6 (t + 1) _ _ _ _ _ _ _ _ (by omega) (by omega) (fun u hu => by by_cases e : u = t; (· rw [e, pk_us, pk_us]; exact ⟨rfl, rfl⟩); rw [pk_un e, pk_un e]; exact hzz u (by omega)) hO hS hSo hSn hQ hP hZ hW hF

set_option maxRecDepth 100000 in
set_option maxHeartbeats 4000000 in
theorem n_unknownNow {G : mG} {M : mM} {m sa ha c xa tl ra la qa al ka rm pa za wa ua ap nu be en : Nat} {fs fe cm : Int32} (hO : M m = some (300, .inl (8, nL sa ha c xa tl ra la qa al ka rm pa fs fe za wa ua ap cm nu be en))) {S : Nat → Int32} (hS : M sa = some (301, .inr (0, 444, .inl S))) {T mo od ql : Nat} {q : Nat → Int32} {ln : Nat → Nat} {fl : Nat → Nat → Int32} {us : Nat → Int32} (hx : SR S T mo od ql q ln fl us) (hok : okX T mo od ql q ln fl) {W : Nat → Int32} (hW : M wa = some (310, .inr (0, 16, .inl W))) (hWk : ∀ u, u < T → W u = fdL (kyN T mo ln fl u))  : CC G iX7_unknownNow 0 0 [.ref m] M (fun r M1 => r = some (.int (nI (unN T mo ln fl T))) ∧ M = M1) := by
  refine CC.of rfl (Nat.le_of_ble_eq_true rfl) rfl (fun X C Tr => ?_)
  show V X 0 0 0 [some (.ref m), none, none] [] M
  have hx8 := hx
  obtain ⟨hx0, hx1, hx2, hx3, hxq, hxt⟩ := hx
  have hT16 := hok.T16
  have hm4 := hok.m4
  have ho3 := hok.o3
  have hq24 := hok.q24
  refine s_iconst C 1 (nI 0) dX7_unknownNow_0 rfl (by decide) ?_
  refine s_istore_n C 2 dX7_unknownNow_1 rfl rfl rfl ?_
  dsimp only [List.set]
  refine s_iconst C 3 (nI 0) dX7_unknownNow_2 rfl (by decide) ?_
  refine s_istore_n C 4 dX7_unknownNow_3 rfl rfl rfl ?_
  dsimp only [List.set]
  suffices lp4 : ∀ (fu4 : Nat) (t : Nat), T - t < fu4 → t ≤ T → V X 0 0 4 [some (.ref m), some (.int (nI (unN T mo ln fl t))), some (.int (nI t))] [] M from lp4 (T + 1) 0 (by omega) (by omega)
  intro fu4
  induction fu4 with
  | zero => intro t ht0 ht; omega
  | succ fu4 ih4 =>
    intro t ht0 ht
    have hun := unN_le (T := T) (mo := mo) (ln := ln) (fl := fl) t
    have hkb := (bst_lt (P := pKb T mo ln fl t)).2
    refine s_iload_n C 5 dX7_unknownNow_4 rfl rfl ?_
    refine s_aload_n C 6 dX7_unknownNow_5 rfl rfl ?_
    refine s_getf C 9 dX7_unknownNow_6 rfl f_X7_7 hO rfl ?_
    refine s_iconst C 10 (nI 0) dX7_unknownNow_9 rfl (by decide) ?_
    refine s_iald C 11 dX7_unknownNow_10 rfl hS (by omega) (by omega) ?_
    rw [hx0]
    refine s_icmp_geN C 39 14 dX7_unknownNow_11 (by decide) rfl (by omega) (by omega) (fun z11 => ?_) (fun z11 => ?_)
    · skip
      have hte : t = T := by omega
      refine s_iload_n C 40 dX7_unknownNow_39 rfl rfl ?_
      exact s_iret C dX7_unknownNow_40 Tr rfl ⟨by rw [hte], rfl⟩
    · skip
      refine s_iload_n C 15 dX7_unknownNow_14 rfl rfl ?_
      refine s_aload_n C 16 dX7_unknownNow_15 rfl rfl ?_
      refine s_getf C 19 dX7_unknownNow_16 rfl f_X7_37 hO rfl ?_
      refine s_iload_n C 20 dX7_unknownNow_19 rfl rfl ?_
      refine s_iald C 21 dX7_unknownNow_20 rfl hW (by omega) (by omega) ?_
      rw [hWk t (by omega)]
      refine s_bipush C 23 (-6) dX7_unknownNow_21 rfl (by decide) ?_
      refine s_icmp_ne C 30 26 dX7_unknownNow_23 (by decide) rfl (fun z23 => ?_) (fun z23 => ?_)
      · skip
        have hkl : 0 < (kyN T mo ln fl t).2 := Classical.not_not.mp (fun w => z23 ((fdL_n (by unfold kyN; omega)).mpr w))
        refine s_iconst C 31 (nI 0) dX7_unknownNow_30 rfl (by decide) ?_
        refine s_iaddN C 32 dX7_unknownNow_31 rfl ?_
        refine s_istore_n C 33 dX7_unknownNow_32 rfl rfl rfl ?_
        dsimp only [List.set]
        refine s_iinc C 36 (nI (t + 1)) dX7_unknownNow_33 rfl rfl (by rw [← nI_add]; rfl) rfl ?_
        dsimp only [List.set]
        refine s_goto C 4 dX7_unknownNow_36 (by decide) ?_
        rw [show (unN T mo ln fl t) + 0 = unN T mo ln fl (t + 1) by rw [unN, if_pos hkl]]
        exact ih4 (t + 1) (by omega) (by omega)
      · skip
        have hkl := (fdL_n (by unfold kyN; omega)).mp z23
        refine s_iconst C 27 (nI 1) dX7_unknownNow_26 rfl (by decide) ?_
        refine s_goto C 31 dX7_unknownNow_27 (by decide) ?_
        refine s_iaddN C 32 dX7_unknownNow_31 rfl ?_
        refine s_istore_n C 33 dX7_unknownNow_32 rfl rfl rfl ?_
        dsimp only [List.set]
        refine s_iinc C 36 (nI (t + 1)) dX7_unknownNow_33 rfl rfl (by rw [← nI_add]; rfl) rfl ?_
        dsimp only [List.set]
        refine s_goto C 4 dX7_unknownNow_36 (by decide) ?_
        rw [show (unN T mo ln fl t) + 1 = unN T mo ln fl (t + 1) by rw [unN, if_neg hkl]]
        exact ih4 (t + 1) (by omega) (by omega)

set_option maxRecDepth 100000 in
set_option maxHeartbeats 4000000 in
theorem n_hardestNow {G : mG} {M : mM} {m sa ha c xa tl ra la qa al ka rm pa za wa ua ap nu be en : Nat} {fs fe cm : Int32} (hO : M m = some (300, .inl (8, nL sa ha c xa tl ra la qa al ka rm pa fs fe za wa ua ap cm nu be en))) {S : Nat → Int32} (hS : M sa = some (301, .inr (0, 444, .inl S))) {T mo od ql : Nat} {q : Nat → Int32} {ln : Nat → Nat} {fl : Nat → Nat → Int32} {us : Nat → Int32} (hx : SR S T mo od ql q ln fl us) (hok : okX T mo od ql q ln fl) {W : Nat → Int32} (hW : M wa = some (310, .inr (0, 16, .inl W))) (hWk : ∀ u, u < T → W u = fdL (kyN T mo ln fl u))  : CC G iX7_hardestNow 0 0 [.ref m] M (fun r M1 => r = some (.int (oI (hdN T mo ln fl T).2)) ∧ M = M1) := by
  refine CC.of rfl (Nat.le_of_ble_eq_true rfl) rfl (fun X C Tr => ?_)
  show V X 0 0 0 [some (.ref m), none, none] [] M
  have hx8 := hx
  obtain ⟨hx0, hx1, hx2, hx3, hxq, hxt⟩ := hx
  have hT16 := hok.T16
  have hm4 := hok.m4
  have ho3 := hok.o3
  have hq24 := hok.q24
  refine s_bipush C 2 (-6) dX7_hardestNow_0 rfl (by decide) ?_
  refine s_istore_n C 3 dX7_hardestNow_2 rfl rfl rfl ?_
  dsimp only [List.set]
  refine s_iconst C 4 (nI 0) dX7_hardestNow_3 rfl (by decide) ?_
  refine s_istore_n C 5 dX7_hardestNow_4 rfl rfl rfl ?_
  dsimp only [List.set]
  suffices lp5 : ∀ (fu5 : Nat) (t : Nat), T - t < fu5 → t ≤ T → (match (hdN T mo ln fl t).2 with | none => (hdN T mo ln fl t).1 = 0 | some j => j < t ∧ (hdN T mo ln fl t).1 = (kyN T mo ln fl j).2 ∧ 0 < (kyN T mo ln fl j).2) → V X 0 0 5 [some (.ref m), some (.int (oI (hdN T mo ln fl t).2)), some (.int (nI t))] [] M from lp5 (T + 1) 0 (by omega) (by omega) rfl
  intro fu5
  induction fu5 with
  | zero => intro t ht0 ht hhd; omega
  | succ fu5 ih5 =>
    intro t ht0 ht hhd
    have hkb := (bst_lt (P := pKb T mo ln fl t)).2
    refine s_iload_n C 6 dX7_hardestNow_5 rfl rfl ?_
    refine s_aload_n C 7 dX7_hardestNow_6 rfl rfl ?_
    refine s_getf C 10 dX7_hardestNow_7 rfl f_X7_7 hO rfl ?_
    refine s_iconst C 11 (nI 0) dX7_hardestNow_10 rfl (by decide) ?_
    refine s_iald C 12 dX7_hardestNow_11 rfl hS (by omega) (by omega) ?_
    rw [hx0]
    refine s_icmp_geN C 59 15 dX7_hardestNow_12 (by decide) rfl (by omega) (by omega) (fun z12 => ?_) (fun z12 => ?_)
    · skip
      have hte : t = T := by omega
      refine s_iload_n C 60 dX7_hardestNow_59 rfl rfl ?_
      exact s_iret C dX7_hardestNow_60 Tr rfl ⟨by rw [hte], rfl⟩
    · skip
      refine s_aload_n C 16 dX7_hardestNow_15 rfl rfl ?_
      refine s_getf C 19 dX7_hardestNow_16 rfl f_X7_37 hO rfl ?_
      refine s_iload_n C 20 dX7_hardestNow_19 rfl rfl ?_
      refine s_iald C 21 dX7_hardestNow_20 rfl hW (by omega) (by omega) ?_
      rw [hWk t (by omega)]
      refine s_bipush C 23 (-6) dX7_hardestNow_21 rfl (by decide) ?_
      refine s_icmp_eq C 51 26 dX7_hardestNow_23 (by decide) rfl (fun z23 => ?_) (fun z23 => ?_)
      · skip
        have hkl := (fdL_n (by unfold kyN; omega)).mp z23
        have hlt : ¬ (hdN T mo ln fl t).1 < (kyN T mo ln fl t).2 := by omega
        refine s_iload_n C 52 dX7_hardestNow_51 rfl rfl ?_
        refine s_istore_n C 53 dX7_hardestNow_52 rfl rfl rfl ?_
        dsimp only [List.set]
        refine s_iinc C 56 (nI (t + 1)) dX7_hardestNow_53 rfl rfl (by rw [← nI_add]; rfl) rfl ?_
        dsimp only [List.set]
        refine s_goto C 5 dX7_hardestNow_56 (by decide) ?_
        have hst : (hdN T mo ln fl (t + 1)) = (hdN T mo ln fl t) := by rw [hdN, if_neg hlt]
        rw [show (oI (hdN T mo ln fl t).2) = oI (hdN T mo ln fl (t + 1)).2 by rw [hst]; first | done | exact hfd | rfl]
        exact ih5 (t + 1) (by omega) (by omega) (by rw [hst]; exact hd_mono hhd)
      · skip
        have hkl : 0 < (kyN T mo ln fl t).2 := Classical.not_not.mp (fun w => z23 ((fdL_n (by unfold kyN; omega)).mpr w))
        refine s_iload_n C 27 dX7_hardestNow_26 rfl rfl ?_
        refine s_bipush C 29 (-6) dX7_hardestNow_27 rfl (by decide) ?_
        refine s_icmp_eq C 47 32 dX7_hardestNow_29 (by decide) rfl (fun z29 => ?_) (fun z29 => ?_)
        · skip
          have hno : (hdN T mo ln fl t).2 = none := (oI_n (fun j hj => by rw [hj] at hhd; have := hhd.1; omega)).mp z29
          have hlt : (hdN T mo ln fl t).1 < (kyN T mo ln fl t).2 := by rw [hno] at hhd; have h7 : (hdN T mo ln fl t).1 = 0 := hhd; omega
          refine s_iload_n C 48 dX7_hardestNow_47 rfl rfl ?_
          refine s_goto C 52 dX7_hardestNow_48 (by decide) ?_
          refine s_istore_n C 53 dX7_hardestNow_52 rfl rfl rfl ?_
          dsimp only [List.set]
          refine s_iinc C 56 (nI (t + 1)) dX7_hardestNow_53 rfl rfl (by rw [← nI_add]; rfl) rfl ?_
          dsimp only [List.set]
          refine s_goto C 5 dX7_hardestNow_56 (by decide) ?_
          have hst : (hdN T mo ln fl (t + 1)) = ((kyN T mo ln fl t).2, some t) := by rw [hdN, if_pos hlt]
          rw [show nI t = oI (hdN T mo ln fl (t + 1)).2 by rw [hst]; rfl]
          exact ih5 (t + 1) (by omega) (by omega) (by rw [hst]; exact ⟨Nat.lt_succ_self t, rfl, hkl⟩)
        · skip
          obtain ⟨j, hj⟩ : ∃ j, (hdN T mo ln fl t).2 = some j := by cases e : (hdN T mo ln fl t).2 with | none => exact absurd (by rw [e]; rfl) z29 | some j => exact ⟨j, rfl⟩
          have hhd2 := hhd
          rw [hj] at hhd2
          have hhd3 : j < t ∧ (hdN T mo ln fl t).1 = (kyN T mo ln fl j).2 ∧ 0 < (kyN T mo ln fl j).2 := hhd2
          have hoj : oI (hdN T mo ln fl t).2 = nI j := by rw [hj]; rfl
          rw [hoj]
          have hfd := hoj.symm
          have hkbj := (bst_lt (P := pKb T mo ln fl j)).2
          refine s_aload_n C 33 dX7_hardestNow_32 rfl rfl ?_
          refine s_getf C 36 dX7_hardestNow_33 rfl f_X7_37 hO rfl ?_
          refine s_iload_n C 37 dX7_hardestNow_36 rfl rfl ?_
          refine s_iald C 38 dX7_hardestNow_37 rfl hW (by omega) (by omega) ?_
          rw [hWk t (by omega)]
          refine s_aload_n C 39 dX7_hardestNow_38 rfl rfl ?_
          refine s_getf C 42 dX7_hardestNow_39 rfl f_X7_37 hO rfl ?_
          refine s_iload_n C 43 dX7_hardestNow_42 rfl rfl ?_
          refine s_iald C 44 dX7_hardestNow_43 rfl hW (by omega) (by omega) ?_
          rw [hWk j (by omega)]
          rw [show fdL (kyN T mo ln fl t) = nI (kyN T mo ln fl t).2 from if_pos hkl, show fdL (kyN T mo ln fl j) = nI (kyN T mo ln fl j).2 from if_pos hhd3.2.2]
          have hk1 : (kyN T mo ln fl t).2 < 1000 := by unfold kyN; omega
          have hk2 : (kyN T mo ln fl j).2 < 1000 := by unfold kyN; omega
          refine s_icmp_leN C 51 47 dX7_hardestNow_44 (by decide) rfl (by omega) (by omega) (fun z44 => ?_) (fun z44 => ?_)
          · skip
            have hlt : ¬ (hdN T mo ln fl t).1 < (kyN T mo ln fl t).2 := by omega
            refine s_iload_n C 52 dX7_hardestNow_51 rfl rfl ?_
            refine s_istore_n C 53 dX7_hardestNow_52 rfl rfl rfl ?_
            dsimp only [List.set]
            refine s_iinc C 56 (nI (t + 1)) dX7_hardestNow_53 rfl rfl (by rw [← nI_add]; rfl) rfl ?_
            dsimp only [List.set]
            refine s_goto C 5 dX7_hardestNow_56 (by decide) ?_
            have hst : (hdN T mo ln fl (t + 1)) = (hdN T mo ln fl t) := by rw [hdN, if_neg hlt]
            rw [show (nI j) = oI (hdN T mo ln fl (t + 1)).2 by rw [hst]; first | done | exact hfd | rfl]
            exact ih5 (t + 1) (by omega) (by omega) (by rw [hst]; exact hd_mono hhd)
          · skip
            have hlt : (hdN T mo ln fl t).1 < (kyN T mo ln fl t).2 := by omega
            refine s_iload_n C 48 dX7_hardestNow_47 rfl rfl ?_
            refine s_goto C 52 dX7_hardestNow_48 (by decide) ?_
            refine s_istore_n C 53 dX7_hardestNow_52 rfl rfl rfl ?_
            dsimp only [List.set]
            refine s_iinc C 56 (nI (t + 1)) dX7_hardestNow_53 rfl rfl (by rw [← nI_add]; rfl) rfl ?_
            dsimp only [List.set]
            refine s_goto C 5 dX7_hardestNow_56 (by decide) ?_
            have hst : (hdN T mo ln fl (t + 1)) = ((kyN T mo ln fl t).2, some t) := by rw [hdN, if_pos hlt]
            rw [show nI t = oI (hdN T mo ln fl (t + 1)).2 by rw [hst]; rfl]
            exact ih5 (t + 1) (by omega) (by omega) (by rw [hst]; exact ⟨Nat.lt_succ_self t, rfl, hkl⟩)

set_option maxRecDepth 100000 in
set_option maxHeartbeats 4000000 in
theorem n_findResults {G : mG} {M : mM} {m sa ha c xa tl ra la qa al ka rm pa za wa ua ap nu be en : Nat} {fs fe cm : Int32} (hO : M m = some (300, .inl (8, nL sa ha c xa tl ra la qa al ka rm pa fs fe za wa ua ap cm nu be en))) {S : Nat → Int32} (hS : M sa = some (301, .inr (0, 444, .inl S))) {T mo od ql : Nat} {q : Nat → Int32} {ln : Nat → Nat} {fl : Nat → Nat → Int32} {us : Nat → Int32} (hx : SR S T mo od ql q ln fl us) (hok : okX T mo od ql q ln fl) {so sn : Nat → Int32} (hSo : M ra = some (304, .inr (0, 384, .inl so))) (hSn : M la = some (305, .inr (0, 16, .inl sn))) {Q : Nat → Int32} (hQ : M qa = some (306, .inr (0, 24, .inl Q))) {K : Nat → Int32} (hK : M ka = some (307, .inr (0, 16, .inl K))) {P : Nat → Int32} (hP : M pa = some (308, .inr (0, 16, .inl P)))  : CC G iX7_findResults 0 0 [.ref m] M (fun r M1 => r = none ∧ M1 m = some (300, .inl (8, nL sa ha c xa tl ra la qa (qcN ql q) ka ((rkN T mo od ql q ln fl us T).1) pa fs fe za wa ua ap cm nu be en)) ∧ (∃ so1 sn1 : Nat → Int32, M1 ra = some (304, .inr (0, 384, .inl so1)) ∧ M1 la = some (305, .inr (0, 16, .inl sn1)) ∧ srO so1 sn1 T mo ln fl) ∧ (∃ Q1 : Nat → Int32, M1 qa = some (306, .inr (0, 24, .inl Q1))) ∧ (∃ K1 : Nat → Int32, M1 ka = some (307, .inr (0, 16, .inl K1)) ∧ ∀ j, j < (rkN T mo od ql q ln fl us T).1 → K1 j = nI ((rkN T mo od ql q ln fl us T).2 j)) ∧ (∃ P1 : Nat → Int32, M1 pa = some (308, .inr (0, 16, .inl P1)) ∧ ∀ u, u < T → P1 u = oI (pmO mo ql q (ln u) (fl u))) ∧ mZ [300, 304, 305, 306, 307, 308] M M1) := by
  refine CC.of rfl (Nat.le_of_ble_eq_true rfl) rfl (fun X C Tr => ?_)
  show V X 0 0 0 [some (.ref m), none, none] [] M
  have hx8 := hx
  obtain ⟨hx0, hx1, hx2, hx3, hxq, hxt⟩ := hx
  have hT16 := hok.T16
  have hm4 := hok.m4
  have ho3 := hok.o3
  have hq24 := hok.q24
  have hF : mZ [300, 304, 305, 306, 307, 308] M M := mZ.rf
  refine s_aload_n C 1 dX7_findResults_0 rfl rfl ?_
  refine s_invV C 4 0 0 [] (mRv_of hO rfl) dX7_findResults_1 rfl m_X7_87 (n_findSources hO hS hx8 hok hSo hSn) rfl rfl rfl ⟨by decide, by decide⟩ (Nat.le_of_ble_eq_true rfl) (by omega) (by omega) ?_
  rintro _ M1 ⟨rfl, ⟨so7, sn7, hSo7, hSn7, hsr⟩, hFs⟩
  dsimp only [Option.toList, List.cons_append, List.nil_append]
  have hO := hFs.at hO (by decide)
  have hS := hFs.at hS (by decide)
  have hQ := hFs.at hQ (by decide)
  have hK := hFs.at hK (by decide)
  have hP := hFs.at hP (by decide)
  have hSo := hSo7
  have hSn := hSn7
  have hF := hF.tr (hFs.mono (by decide))
  refine s_aload_n C 5 dX7_findResults_4 rfl rfl ?_
  refine s_aload_n C 6 dX7_findResults_5 rfl rfl ?_
  refine s_getf C 9 dX7_findResults_6 rfl f_X7_7 hO rfl ?_
  refine s_iconst C 10 (nI 3) dX7_findResults_9 rfl (by decide) ?_
  refine s_iald C 11 dX7_findResults_10 rfl hS (by omega) (by omega) ?_
  rw [hx3]
  refine s_putU C 14 dX7_findResults_11 rfl p_X7_72 hO (by first | decide | omega) rfl rfl rfl (fs' := [.ref sa, .ref ha, .int (nI c), .ref xa, .int (nI tl), .ref ra, .ref la, .ref qa, .int (nI ql), .ref ka, .int (nI rm), .ref pa, .int fs, .int fe, .ref za, .ref wa, .ref ua, .int (nI ap), .int cm, .int (nI nu), .int (nI be), .int (nI en)]) rfl (fun M2 U3 => ?_)
  have hS := U3.o hO hS (by first | decide | omega)
  have hSo := U3.o hO hSo (by first | decide | omega)
  have hSn := U3.o hO hSn (by first | decide | omega)
  have hQ := U3.o hO hQ (by first | decide | omega)
  have hK := U3.o hO hK (by first | decide | omega)
  have hP := U3.o hO hP (by first | decide | omega)
  have hF := hF.put U3 hO (by first | decide | (simp; done) | (simp; omega) | (simp [*]; done))
  have hO := U3.s
  refine s_aload_n C 15 dX7_findResults_14 rfl rfl ?_
  refine s_dup C 16 dX7_findResults_15 rfl rfl ?_
  refine s_getf C 19 dX7_findResults_16 rfl f_X7_72 hO rfl ?_
  refine s_aload_n C 20 dX7_findResults_19 rfl rfl ?_
  refine s_getf C 23 dX7_findResults_20 rfl f_X7_72 hO rfl ?_
  refine s_if_leN C 48 26 dX7_findResults_23 (by decide) rfl (by omega) (fun z23 => ?_) (fun z23 => ?_)
  · skip
    refine s_iconst C 49 (nI 0) dX7_findResults_48 rfl (by decide) ?_
    refine s_isubN C 50 dX7_findResults_49 rfl (by omega) ?_
    refine s_putU C 53 dX7_findResults_50 rfl p_X7_72 hO (by first | decide | omega) rfl rfl rfl (fs' := [.ref sa, .ref ha, .int (nI c), .ref xa, .int (nI tl), .ref ra, .ref la, .ref qa, .int (nI (ql - 0)), .ref ka, .int (nI rm), .ref pa, .int fs, .int fe, .ref za, .ref wa, .ref ua, .int (nI ap), .int cm, .int (nI nu), .int (nI be), .int (nI en)]) rfl (fun M4 U5 => ?_)
    have hS := U5.o hO hS (by first | decide | omega)
    have hSo := U5.o hO hSo (by first | decide | omega)
    have hSn := U5.o hO hSn (by first | decide | omega)
    have hQ := U5.o hO hQ (by first | decide | omega)
    have hK := U5.o hO hK (by first | decide | omega)
    have hP := U5.o hO hP (by first | decide | omega)
    have hF := hF.put U5 hO (by first | decide | (simp; done) | (simp; omega) | (simp [*]; done))
    have hO := U5.s
    have hqc : ql - 0 = qcN ql q := by rcases qc_cases (ql := ql) (q := q) with ⟨h1, h2⟩ | ⟨h1, h2, h3⟩ | ⟨h1, h2, h3⟩ <;> first | omega | (exact absurd h2 z41) | (exact absurd z41 h2)
    rw [hqc] at hO
    have hqle := qcN_le (ql := ql) (q := q)
    refine s_iconst C 54 (nI 0) dX7_findResults_53 rfl (by decide) ?_
    refine s_istore_n C 55 dX7_findResults_54 rfl rfl rfl ?_
    dsimp only [List.set]
    suffices lp55 : ∀ (fu55 : Nat) (k : Nat) (Q9 : Nat → Int32) (M9 : mM), qcN ql q - k < fu55 → k ≤ qcN ql q → (∀ x, x < k → Q9 x = q x) → M9 m = some (300, .inl (8, [.ref sa, .ref ha, .int (nI c), .ref xa, .int (nI tl), .ref ra, .ref la, .ref qa, .int (nI (qcN ql q)), .ref ka, .int (nI rm), .ref pa, .int fs, .int fe, .ref za, .ref wa, .ref ua, .int (nI ap), .int cm, .int (nI nu), .int (nI be), .int (nI en)])) → M9 sa = some (301, .inr (0, 444, .inl S)) → M9 ra = some (304, .inr (0, 384, .inl so7)) → M9 la = some (305, .inr (0, 16, .inl sn7)) → M9 qa = some (306, .inr (0, 24, .inl Q9)) → M9 ka = some (307, .inr (0, 16, .inl K)) → M9 pa = some (308, .inr (0, 16, .inl P)) → mZ [300, 304, 305, 306, 307, 308] M M9 → V X 0 0 55 [some (.ref m), some (.int (nI k)), none] [] M9 from lp55 (qcN ql q + 1) 0 _ _ (by omega) (by omega) (fun x hx => by omega) hO hS hSo hSn hQ hK hP hF
    intro fu55
    induction fu55 with
    | zero => intro k Q9 M9 hk0 hk hQa hO hS hSo hSn hQ hK hP hF; omega
    | succ fu55 ih55 =>
      intro k Q9 M9 hk0 hk hQa hO hS hSo hSn hQ hK hP hF
      refine s_iload_n C 56 dX7_findResults_55 rfl rfl ?_
      refine s_aload_n C 57 dX7_findResults_56 rfl rfl ?_
      refine s_getf C 60 dX7_findResults_57 rfl f_X7_72 hO rfl ?_
      refine s_icmp_geN C 83 63 dX7_findResults_60 (by decide) rfl (by omega) (by omega) (fun z60 => ?_) (fun z60 => ?_)
      · skip
        have hke : k = qcN ql q := by omega
        refine s_aload_n C 84 dX7_findResults_83 rfl rfl ?_
        refine s_invV C 87 0 0 [] (mRv_of hO rfl) dX7_findResults_84 rfl m_X7_90 (n_findPlaces hO hS hx8 hok hSo hSn hsr hQ (a := q) (fun x hx => hQa x (by omega)) hP (by omega) (fun h7 => qc_last hok h7)) rfl rfl rfl ⟨by decide, by decide⟩ (Nat.le_of_ble_eq_true rfl) (by omega) (by omega) ?_
        rintro _ M6 ⟨rfl, ⟨P7, hP7, hpp7⟩, hFp⟩
        dsimp only [Option.toList, List.cons_append, List.nil_append]
        have hO := hFp.at hO (by decide)
        have hS := hFp.at hS (by decide)
        have hSo := hFp.at hSo (by decide)
        have hSn := hFp.at hSn (by decide)
        have hQ := hFp.at hQ (by decide)
        have hK := hFp.at hK (by decide)
        have hP := hP7
        have hF := hF.tr (hFp.mono (by decide))
        have hpp : ∀ u, u < T → P7 u = oI (pmO mo ql q (ln u) (fl u)) := hpp7
        refine s_aload_n C 88 dX7_findResults_87 rfl rfl ?_
        refine s_iconst C 89 (nI 0) dX7_findResults_88 rfl (by decide) ?_
        refine s_putU C 92 dX7_findResults_89 rfl p_X7_93 hO (by first | decide | omega) rfl rfl rfl (fs' := [.ref sa, .ref ha, .int (nI c), .ref xa, .int (nI tl), .ref ra, .ref la, .ref qa, .int (nI (qcN ql q)), .ref ka, .int (nI 0), .ref pa, .int fs, .int fe, .ref za, .ref wa, .ref ua, .int (nI ap), .int cm, .int (nI nu), .int (nI be), .int (nI en)]) rfl (fun M7 U8 => ?_)
        have hS := U8.o hO hS (by first | decide | omega)
        have hSo := U8.o hO hSo (by first | decide | omega)
        have hSn := U8.o hO hSn (by first | decide | omega)
        have hQ := U8.o hO hQ (by first | decide | omega)
        have hK := U8.o hO hK (by first | decide | omega)
        have hP := U8.o hO hP (by first | decide | omega)
        have hF := hF.put U8 hO (by first | decide | (simp; done) | (simp; omega) | (simp [*]; done))
        have hO := U8.s
        refine s_iconst C 93 (nI 0) dX7_findResults_92 rfl (by decide) ?_
        refine s_istore_n C 94 dX7_findResults_93 rfl rfl rfl ?_
        dsimp only [List.set]
        suffices lp94 : ∀ (fu94 : Nat) (t : Nat) (K9 : Nat → Int32) (M9 : mM), T - t < fu94 → t ≤ T → (∀ j, j < (rkN T mo od ql q ln fl us t).1 → K9 j = nI ((rkN T mo od ql q ln fl us t).2 j)) → M9 m = some (300, .inl (8, [.ref sa, .ref ha, .int (nI c), .ref xa, .int (nI tl), .ref ra, .ref la, .ref qa, .int (nI (qcN ql q)), .ref ka, .int (nI ((rkN T mo od ql q ln fl us t).1)), .ref pa, .int fs, .int fe, .ref za, .ref wa, .ref ua, .int (nI ap), .int cm, .int (nI nu), .int (nI be), .int (nI en)])) → M9 sa = some (301, .inr (0, 444, .inl S)) → M9 ra = some (304, .inr (0, 384, .inl so7)) → M9 la = some (305, .inr (0, 16, .inl sn7)) → M9 qa = some (306, .inr (0, 24, .inl Q9)) → M9 ka = some (307, .inr (0, 16, .inl K9)) → M9 pa = some (308, .inr (0, 16, .inl P7)) → mZ [300, 304, 305, 306, 307, 308] M M9 → V X 0 0 94 [some (.ref m), some (.int (nI t)), none] [] M9 from lp94 (T + 1) 0 _ _ (by omega) (by omega) (fun j hj => absurd hj (Nat.not_lt_zero _)) hO hS hSo hSn hQ hK hP hF
        intro fu94
        induction fu94 with
        | zero => intro t K9 M9 ht0 ht hkk hO hS hSo hSn hQ hK hP hF; omega
        | succ fu94 ih94 =>
          intro t K9 M9 ht0 ht hkk hO hS hSo hSn hQ hK hP hF
          have hin := rkS_in (B := fun x y => cbB od x ((pmO mo ql q (ln x) (fl x)).getD 0) y ((pmO mo ql q (ln y) (fl y)).getD 0) ln fl us) (pm := fun x => pmO mo ql q (ln x) (fl x)) t
          have hin1 : (rkN T mo od ql q ln fl us t).1 ≤ t := hin.1
          have hin2 : ∀ j, j < (rkN T mo od ql q ln fl us t).1 → (rkN T mo od ql q ln fl us t).2 j < t ∧ (pmO mo ql q (ln ((rkN T mo od ql q ln fl us t).2 j)) (fl ((rkN T mo od ql q ln fl us t).2 j))).isSome = true := hin.2
          refine s_iload_n C 95 dX7_findResults_94 rfl rfl ?_
          refine s_aload_n C 96 dX7_findResults_95 rfl rfl ?_
          refine s_getf C 99 dX7_findResults_96 rfl f_X7_7 hO rfl ?_
          refine s_iconst C 100 (nI 0) dX7_findResults_99 rfl (by decide) ?_
          refine s_iald C 101 dX7_findResults_100 rfl hS (by omega) (by omega) ?_
          rw [hx0]
          refine s_icmp_geN C 183 104 dX7_findResults_101 (by decide) rfl (by omega) (by omega) (fun z101 => ?_) (fun z101 => ?_)
          · skip
            have hte : t = T := by omega
            rw [hte] at hO hkk
            exact s_vret C dX7_findResults_183 Tr rfl ⟨rfl, hO, ⟨_, _, hSo, hSn, hsr⟩, ⟨_, hQ⟩, ⟨_, hK, hkk⟩, ⟨_, hP, hpp⟩, hF⟩
          · skip
            refine s_aload_n C 105 dX7_findResults_104 rfl rfl ?_
            refine s_getf C 108 dX7_findResults_105 rfl f_X7_31 hO rfl ?_
            refine s_iload_n C 109 dX7_findResults_108 rfl rfl ?_
            refine s_iald C 110 dX7_findResults_109 rfl hP (by omega) (by omega) ?_
            rw [hpp t (by omega)]
            refine s_bipush C 112 (-6) dX7_findResults_110 rfl (by decide) ?_
            refine s_icmp_eq C 177 115 dX7_findResults_112 (by decide) rfl (fun z112 => ?_) (fun z112 => ?_)
            · skip
              have hp26 := pmO_lt (mo := mo) (ql := ql) (q := q) (f := fl t) (hok.V t (by omega)).2.1
              have hno : pmO mo ql q (ln t) (fl t) = none := (oI_n (fun j hj => by have := hp26 j hj; omega)).mp z112
              have hstep : (rkN T mo od ql q ln fl us (t + 1)) = (rkN T mo od ql q ln fl us t) := by unfold rkN; rw [rkS, if_neg (by simp [hno])]
              refine s_iinc C 180 (nI (t + 1)) dX7_findResults_177 rfl rfl (by rw [← nI_add]; rfl) rfl ?_
              dsimp only [List.set]
              refine s_goto C 94 dX7_findResults_180 (by decide) ?_
              exact ih94 (t + 1) _ _ (by omega) (by omega) (by rw [hstep]; exact hkk) (by rw [hstep]; exact hO) hS hSo hSn hQ hK hP hF
            · skip
              obtain ⟨pp, hpp2⟩ : ∃ pp, pmO mo ql q (ln t) (fl t) = some pp := by cases e : pmO mo ql q (ln t) (fl t) with | none => exact absurd (by rw [e]; rfl) z112 | some p => exact ⟨p, rfl⟩
              have hstep : (rkN T mo od ql q ln fl us (t + 1)) = ((rkN T mo od ql q ln fl us t).1 + 1, insR (rkN T mo od ql q ln fl us t).2 (insK (fun y => cbB od t (plN mo ql q ln fl t) y (plN mo ql q ln fl y) ln fl us) (rkN T mo od ql q ln fl us t).2 (rkN T mo od ql q ln fl us t).1) t) := by unfold rkN plN; rw [rkS, if_pos (by simp [hpp2])]
              have hpt2 : P7 t = nI (plN mo ql q ln fl t) := by rw [hpp t (by omega)]; unfold plN; rw [hpp2]; rfl
              have hpt3 : plN mo ql q ln fl t < 1000 := by unfold plN; rw [hpp2]; have := pmO_lt (mo := mo) (ql := ql) (q := q) (f := fl t) (hok.V t (by omega)).2.1 pp hpp2; show pp < 1000; omega
              refine s_aload_n C 116 dX7_findResults_115 rfl rfl ?_
              refine s_getf C 119 dX7_findResults_116 rfl f_X7_93 hO rfl ?_
              refine s_istore_n C 120 dX7_findResults_119 rfl rfl rfl ?_
              dsimp only [List.set]
              suffices lp120 : ∀ (fu120 : Nat) (i : Nat) (K8 : Nat → Int32) (M8 : mM), i < fu120 → i ≤ (rkN T mo od ql q ln fl us t).1 → insK (fun y => cbB od t (plN mo ql q ln fl t) y (plN mo ql q ln fl y) ln fl us) (rkN T mo od ql q ln fl us t).2 (rkN T mo od ql q ln fl us t).1 = insK (fun y => cbB od t (plN mo ql q ln fl t) y (plN mo ql q ln fl y) ln fl us) (rkN T mo od ql q ln fl us t).2 i → (∀ j, j < i → K8 j = nI ((rkN T mo od ql q ln fl us t).2 j)) → (∀ j, i < j → j ≤ (rkN T mo od ql q ln fl us t).1 → K8 j = nI ((rkN T mo od ql q ln fl us t).2 (j - 1))) → M8 m = some (300, .inl (8, [.ref sa, .ref ha, .int (nI c), .ref xa, .int (nI tl), .ref ra, .ref la, .ref qa, .int (nI (qcN ql q)), .ref ka, .int (nI ((rkN T mo od ql q ln fl us t).1)), .ref pa, .int fs, .int fe, .ref za, .ref wa, .ref ua, .int (nI ap), .int cm, .int (nI nu), .int (nI be), .int (nI en)])) → M8 sa = some (301, .inr (0, 444, .inl S)) → M8 ra = some (304, .inr (0, 384, .inl so7)) → M8 la = some (305, .inr (0, 16, .inl sn7)) → M8 qa = some (306, .inr (0, 24, .inl Q9)) → M8 ka = some (307, .inr (0, 16, .inl K8)) → M8 pa = some (308, .inr (0, 16, .inl P7)) → mZ [300, 304, 305, 306, 307, 308] M M8 → V X 0 0 120 [some (.ref m), some (.int (nI t)), some (.int (nI i))] [] M8 from lp120 ((rkN T mo od ql q ln fl us t).1 + 1) _ _ _ (by omega) (by omega) rfl hkk (fun j h1 h2 => by omega) hO hS hSo hSn hQ hK hP hF
              intro fu120
              induction fu120 with
              | zero => intro i K8 M8 hi0 hi hKi hlo hhi hO hS hSo hSn hQ hK hP hF; omega
              | succ fu120 ih120 =>
                intro i K8 M8 hi0 hi hKi hlo hhi hO hS hSo hSn hQ hK hP hF
                refine s_iload_n C 121 dX7_findResults_120 rfl rfl ?_
                refine s_if_leN C 160 124 dX7_findResults_121 (by decide) rfl (by omega) (fun z121 => ?_) (fun z121 => ?_)
                · skip
                  have hi7 : i = 0 := by omega
                  have hz : insK (fun y => cbB od t (plN mo ql q ln fl t) y (plN mo ql q ln fl y) ln fl us) (rkN T mo od ql q ln fl us t).2 (rkN T mo od ql q ln fl us t).1 = i := by rw [hKi, hi7]; rfl
                  refine s_aload_n C 161 dX7_findResults_160 rfl rfl ?_
                  refine s_getf C 164 dX7_findResults_161 rfl f_X7_28 hO rfl ?_
                  refine s_iload_n C 165 dX7_findResults_164 rfl rfl ?_
                  refine s_iload_n C 166 dX7_findResults_165 rfl rfl ?_
                  refine s_iastU C 167 dX7_findResults_166 rfl hK (by first | decide | omega) (by omega) (by omega) (fun M9 U10 => ?_)
                  have hO := U10.o hK hO (by first | decide | omega)
                  have hS := U10.o hK hS (by first | decide | omega)
                  have hSo := U10.o hK hSo (by first | decide | omega)
                  have hSn := U10.o hK hSn (by first | decide | omega)
                  have hQ := U10.o hK hQ (by first | decide | omega)
                  have hP := U10.o hK hP (by first | decide | omega)
                  have hF := hF.put U10 hK (by first | decide | (simp; done) | (simp; omega) | (simp [*]; done))
                  have hK := U10.s
                  have hkk7 : ∀ j, j < (rkN T mo od ql q ln fl us (t + 1)).1 → (upd K8 i (nI t)) j = nI ((rkN T mo od ql q ln fl us (t + 1)).2 j) := fun j hj => by rw [hstep] at hj ⊢; show _ = nI (insR (rkN T mo od ql q ln fl us t).2 (insK (fun y => cbB od t (plN mo ql q ln fl t) y (plN mo ql q ln fl y) ln fl us) (rkN T mo od ql q ln fl us t).2 (rkN T mo od ql q ln fl us t).1) t j); rw [hz]; unfold insR; by_cases e1 : j < i; (· rw [if_pos e1, pk_un (by omega)]; exact hlo j e1); rw [if_neg e1]; by_cases e2 : j = i; (· rw [if_pos e2, e2, pk_us]); rw [if_neg e2, pk_un e2]; exact hhi j (by omega) (by have : j < (rkN T mo od ql q ln fl us t).1 + 1 := hj; omega)
                  refine s_aload_n C 168 dX7_findResults_167 rfl rfl ?_
                  refine s_dup C 169 dX7_findResults_168 rfl rfl ?_
                  refine s_getf C 172 dX7_findResults_169 rfl f_X7_93 hO rfl ?_
                  refine s_iconst C 173 (nI 1) dX7_findResults_172 rfl (by decide) ?_
                  refine s_iaddN C 174 dX7_findResults_173 rfl ?_
                  refine s_putU C 177 dX7_findResults_174 rfl p_X7_93 hO (by first | decide | omega) rfl rfl rfl (fs' := [.ref sa, .ref ha, .int (nI c), .ref xa, .int (nI tl), .ref ra, .ref la, .ref qa, .int (nI (qcN ql q)), .ref ka, .int (nI (((rkN T mo od ql q ln fl us t).1) + 1)), .ref pa, .int fs, .int fe, .ref za, .ref wa, .ref ua, .int (nI ap), .int cm, .int (nI nu), .int (nI be), .int (nI en)]) rfl (fun M11 U12 => ?_)
                  have hS := U12.o hO hS (by first | decide | omega)
                  have hSo := U12.o hO hSo (by first | decide | omega)
                  have hSn := U12.o hO hSn (by first | decide | omega)
                  have hQ := U12.o hO hQ (by first | decide | omega)
                  have hK := U12.o hO hK (by first | decide | omega)
                  have hP := U12.o hO hP (by first | decide | omega)
                  have hF := hF.put U12 hO (by first | decide | (simp; done) | (simp; omega) | (simp [*]; done))
                  have hO := U12.s
                  refine s_iinc C 180 (nI (t + 1)) dX7_findResults_177 rfl rfl (by rw [← nI_add]; rfl) rfl ?_
                  dsimp only [List.set]
                  refine s_goto C 94 dX7_findResults_180 (by decide) ?_
                  refine V.drop 2 ?_
                  dsimp only [List.set]
                  exact ih94 (t + 1) _ _ (by omega) (by omega) hkk7 (by rw [hstep]; exact hO) hS hSo hSn hQ hK hP hF
                · skip
                  refine s_aload_n C 125 dX7_findResults_124 rfl rfl ?_
                  refine s_iload_n C 126 dX7_findResults_125 rfl rfl ?_
                  refine s_aload_n C 127 dX7_findResults_126 rfl rfl ?_
                  refine s_getf C 130 dX7_findResults_127 rfl f_X7_28 hO rfl ?_
                  refine s_iload_n C 131 dX7_findResults_130 rfl rfl ?_
                  refine s_iconst C 132 (nI 1) dX7_findResults_131 rfl (by decide) ?_
                  refine s_isubN C 133 dX7_findResults_132 rfl (by omega) ?_
                  refine s_iald C 134 dX7_findResults_133 rfl hK (by omega) (by omega) ?_
                  rw [hlo (i - 1) (by omega)]
                  obtain ⟨hu1, hu2⟩ := hin2 (i - 1) (by omega)
                  obtain ⟨u, hu⟩ : ∃ u, u = (rkN T mo od ql q ln fl us t).2 (i - 1) := ⟨_, rfl⟩
                  rw [← hu] at hu1 hu2 ⊢
                  obtain ⟨pu, hpu⟩ := Option.isSome_iff_exists.mp hu2
                  have hpu2 : P7 u = nI (plN mo ql q ln fl u) := by rw [hpp u (by omega)]; unfold plN; rw [hpu]; rfl
                  have hpu3 : plN mo ql q ln fl u < 1000 := by unfold plN; rw [hpu]; have := pmO_lt (mo := mo) (ql := ql) (q := q) (f := fl u) (hok.V u (by omega)).2.1 pu hpu; show pu < 1000; omega
                  refine s_invV C 137 0 0 [] (mRv_of hO rfl) dX7_findResults_134 rfl m_X7_96 (n_ahead hO hS hx8 hok hP (t := t) (u := u) (by omega) (by omega) (by omega) hpt2 hpu2 hpt3 hpu3) rfl rfl rfl ⟨by decide, by decide⟩ (Nat.le_of_ble_eq_true rfl) (by omega) (by omega) ?_
                  rintro _ M13 ⟨rfl, rfl⟩
                  dsimp only [Option.toList, List.cons_append, List.nil_append]
                  rw [hu]
                  refine s_if_eqB C 160 140 dX7_findResults_137 (by decide) rfl (fun z137 => ?_) (fun z137 => ?_)
                  · skip
                    have hz : insK (fun y => cbB od t (plN mo ql q ln fl t) y (plN mo ql q ln fl y) ln fl us) (rkN T mo od ql q ln fl us t).2 (rkN T mo od ql q ln fl us t).1 = i := by rw [hKi]; exact insK_f (by omega) (by exact z137)
                    refine s_aload_n C 161 dX7_findResults_160 rfl rfl ?_
                    refine s_getf C 164 dX7_findResults_161 rfl f_X7_28 hO rfl ?_
                    refine s_iload_n C 165 dX7_findResults_164 rfl rfl ?_
                    refine s_iload_n C 166 dX7_findResults_165 rfl rfl ?_
                    refine s_iastU C 167 dX7_findResults_166 rfl hK (by first | decide | omega) (by omega) (by omega) (fun M14 U15 => ?_)
                    have hO := U15.o hK hO (by first | decide | omega)
                    have hS := U15.o hK hS (by first | decide | omega)
                    have hSo := U15.o hK hSo (by first | decide | omega)
                    have hSn := U15.o hK hSn (by first | decide | omega)
                    have hQ := U15.o hK hQ (by first | decide | omega)
                    have hP := U15.o hK hP (by first | decide | omega)
                    have hF := hF.put U15 hK (by first | decide | (simp; done) | (simp; omega) | (simp [*]; done))
                    have hK := U15.s
                    have hkk7 : ∀ j, j < (rkN T mo od ql q ln fl us (t + 1)).1 → (upd K8 i (nI t)) j = nI ((rkN T mo od ql q ln fl us (t + 1)).2 j) := fun j hj => by rw [hstep] at hj ⊢; show _ = nI (insR (rkN T mo od ql q ln fl us t).2 (insK (fun y => cbB od t (plN mo ql q ln fl t) y (plN mo ql q ln fl y) ln fl us) (rkN T mo od ql q ln fl us t).2 (rkN T mo od ql q ln fl us t).1) t j); rw [hz]; unfold insR; by_cases e1 : j < i; (· rw [if_pos e1, pk_un (by omega)]; exact hlo j e1); rw [if_neg e1]; by_cases e2 : j = i; (· rw [if_pos e2, e2, pk_us]); rw [if_neg e2, pk_un e2]; exact hhi j (by omega) (by have : j < (rkN T mo od ql q ln fl us t).1 + 1 := hj; omega)
                    refine s_aload_n C 168 dX7_findResults_167 rfl rfl ?_
                    refine s_dup C 169 dX7_findResults_168 rfl rfl ?_
                    refine s_getf C 172 dX7_findResults_169 rfl f_X7_93 hO rfl ?_
                    refine s_iconst C 173 (nI 1) dX7_findResults_172 rfl (by decide) ?_
                    refine s_iaddN C 174 dX7_findResults_173 rfl ?_
                    refine s_putU C 177 dX7_findResults_174 rfl p_X7_93 hO (by first | decide | omega) rfl rfl rfl (fs' := [.ref sa, .ref ha, .int (nI c), .ref xa, .int (nI tl), .ref ra, .ref la, .ref qa, .int (nI (qcN ql q)), .ref ka, .int (nI (((rkN T mo od ql q ln fl us t).1) + 1)), .ref pa, .int fs, .int fe, .ref za, .ref wa, .ref ua, .int (nI ap), .int cm, .int (nI nu), .int (nI be), .int (nI en)]) rfl (fun M16 U17 => ?_)
                    have hS := U17.o hO hS (by first | decide | omega)
                    have hSo := U17.o hO hSo (by first | decide | omega)
                    have hSn := U17.o hO hSn (by first | decide | omega)
                    have hQ := U17.o hO hQ (by first | decide | omega)
                    have hK := U17.o hO hK (by first | decide | omega)
                    have hP := U17.o hO hP (by first | decide | omega)
                    have hF := hF.put U17 hO (by first | decide | (simp; done) | (simp; omega) | (simp [*]; done))
                    have hO := U17.s
                    refine s_iinc C 180 (nI (t + 1)) dX7_findResults_177 rfl rfl (by rw [← nI_add]; rfl) rfl ?_
                    dsimp only [List.set]
                    refine s_goto C 94 dX7_findResults_180 (by decide) ?_
                    refine V.drop 2 ?_
                    dsimp only [List.set]
                    exact ih94 (t + 1) _ _ (by omega) (by omega) hkk7 (by rw [hstep]; exact hO) hS hSo hSn hQ hK hP hF
                  · skip
                    refine s_aload_n C 141 dX7_findResults_140 rfl rfl ?_
                    refine s_getf C 144 dX7_findResults_141 rfl f_X7_28 hO rfl ?_
                    refine s_iload_n C 145 dX7_findResults_144 rfl rfl ?_
                    refine s_aload_n C 146 dX7_findResults_145 rfl rfl ?_
                    refine s_getf C 149 dX7_findResults_146 rfl f_X7_28 hO rfl ?_
                    refine s_iload_n C 150 dX7_findResults_149 rfl rfl ?_
                    refine s_iconst C 151 (nI 1) dX7_findResults_150 rfl (by decide) ?_
                    refine s_isubN C 152 dX7_findResults_151 rfl (by omega) ?_
                    refine s_iald C 153 dX7_findResults_152 rfl hK (by omega) (by omega) ?_
                    rw [hlo (i - 1) (by omega)]
                    refine s_iastU C 154 dX7_findResults_153 rfl hK (by first | decide | omega) (by omega) (by omega) (fun M18 U19 => ?_)
                    have hO := U19.o hK hO (by first | decide | omega)
                    have hS := U19.o hK hS (by first | decide | omega)
                    have hSo := U19.o hK hSo (by first | decide | omega)
                    have hSn := U19.o hK hSn (by first | decide | omega)
                    have hQ := U19.o hK hQ (by first | decide | omega)
                    have hP := U19.o hK hP (by first | decide | omega)
                    have hF := hF.put U19 hK (by first | decide | (simp; done) | (simp; omega) | (simp [*]; done))
                    have hK := U19.s
                    refine s_iinc C 157 (nI (i - 1)) dX7_findResults_154 rfl rfl (nI_dec (by omega)) rfl ?_
                    dsimp only [List.set]
                    refine s_goto C 120 dX7_findResults_157 (by decide) ?_
                    exact ih120 (i - 1) _ _ (by omega) (by omega) (by rw [hKi, insK_t (by omega) (by exact z137)]) (fun j hj => by rw [pk_un (by omega)]; exact hlo j (by omega)) (fun j h1 h2 => by by_cases e : j = i; (· rw [e, pk_us]); rw [pk_un e]; exact hhi j (by omega) h2) hO hS hSo hSn hQ hK hP hF
      · skip
        refine s_aload_n C 64 dX7_findResults_63 rfl rfl ?_
        refine s_getf C 67 dX7_findResults_64 rfl f_X7_25 hO rfl ?_
        refine s_iload_n C 68 dX7_findResults_67 rfl rfl ?_
        refine s_aload_n C 69 dX7_findResults_68 rfl rfl ?_
        refine s_getf C 72 dX7_findResults_69 rfl f_X7_7 hO rfl ?_
        refine s_iconst C 73 (nI 4) dX7_findResults_72 rfl (by decide) ?_
        refine s_iload_n C 74 dX7_findResults_73 rfl rfl ?_
        refine s_iaddN C 75 dX7_findResults_74 rfl ?_
        refine s_iald C 76 dX7_findResults_75 rfl hS (by omega) (by omega) ?_
        rw [hxq k (by omega)]
        refine s_iastU C 77 dX7_findResults_76 rfl hQ (by first | decide | omega) (by omega) (by omega) (fun M20 U21 => ?_)
        have hO := U21.o hQ hO (by first | decide | omega)
        have hS := U21.o hQ hS (by first | decide | omega)
        have hSo := U21.o hQ hSo (by first | decide | omega)
        have hSn := U21.o hQ hSn (by first | decide | omega)
        have hK := U21.o hQ hK (by first | decide | omega)
        have hP := U21.o hQ hP (by first | decide | omega)
        have hF := hF.put U21 hQ (by first | decide | (simp; done) | (simp; omega) | (simp [*]; done))
        have hQ := U21.s
        refine s_iinc C 80 (nI (k + 1)) dX7_findResults_77 rfl rfl (by rw [← nI_add]; rfl) rfl ?_
        dsimp only [List.set]
        refine s_goto C 55 dX7_findResults_80 (by decide) ?_
        exact ih55 (k + 1) _ _ (by omega) (by omega) (fun x hx => by by_cases e : x = k; (· rw [e, pk_us]); rw [pk_un e]; exact hQa x (by omega)) hO hS hSo hSn hQ hK hP hF
  · skip
    refine s_aload_n C 27 dX7_findResults_26 rfl rfl ?_
    refine s_getf C 30 dX7_findResults_27 rfl f_X7_7 hO rfl ?_
    refine s_iconst C 31 (nI 4) dX7_findResults_30 rfl (by decide) ?_
    refine s_aload_n C 32 dX7_findResults_31 rfl rfl ?_
    refine s_getf C 35 dX7_findResults_32 rfl f_X7_72 hO rfl ?_
    refine s_iaddN C 36 dX7_findResults_35 rfl ?_
    refine s_iconst C 37 (nI 1) dX7_findResults_36 rfl (by decide) ?_
    refine s_isubN C 38 dX7_findResults_37 rfl (by omega) ?_
    refine s_iald C 39 dX7_findResults_38 rfl hS (by omega) (by omega) ?_
    rw [show S (4 + ql - 1) = q (ql - 1) by (rw [show 4 + ql - 1 = 4 + (ql - 1) by omega]; exact hxq _ (by omega))]
    refine s_bipush C 41 (nI 32) dX7_findResults_39 rfl (by decide) ?_
    refine s_icmp_ne C 48 44 dX7_findResults_41 (by decide) rfl (fun z41 => ?_) (fun z41 => ?_)
    · skip
      refine s_iconst C 49 (nI 0) dX7_findResults_48 rfl (by decide) ?_
      refine s_isubN C 50 dX7_findResults_49 rfl (by omega) ?_
      refine s_putU C 53 dX7_findResults_50 rfl p_X7_72 hO (by first | decide | omega) rfl rfl rfl (fs' := [.ref sa, .ref ha, .int (nI c), .ref xa, .int (nI tl), .ref ra, .ref la, .ref qa, .int (nI (ql - 0)), .ref ka, .int (nI rm), .ref pa, .int fs, .int fe, .ref za, .ref wa, .ref ua, .int (nI ap), .int cm, .int (nI nu), .int (nI be), .int (nI en)]) rfl (fun M22 U23 => ?_)
      have hS := U23.o hO hS (by first | decide | omega)
      have hSo := U23.o hO hSo (by first | decide | omega)
      have hSn := U23.o hO hSn (by first | decide | omega)
      have hQ := U23.o hO hQ (by first | decide | omega)
      have hK := U23.o hO hK (by first | decide | omega)
      have hP := U23.o hO hP (by first | decide | omega)
      have hF := hF.put U23 hO (by first | decide | (simp; done) | (simp; omega) | (simp [*]; done))
      have hO := U23.s
      have hqc : ql - 0 = qcN ql q := by rcases qc_cases (ql := ql) (q := q) with ⟨h1, h2⟩ | ⟨h1, h2, h3⟩ | ⟨h1, h2, h3⟩ <;> first | omega | (exact absurd h2 z41) | (exact absurd z41 h2)
      rw [hqc] at hO
      have hqle := qcN_le (ql := ql) (q := q)
      refine s_iconst C 54 (nI 0) dX7_findResults_53 rfl (by decide) ?_
      refine s_istore_n C 55 dX7_findResults_54 rfl rfl rfl ?_
      dsimp only [List.set]
      suffices lp55 : ∀ (fu55 : Nat) (k : Nat) (Q9 : Nat → Int32) (M9 : mM), qcN ql q - k < fu55 → k ≤ qcN ql q → (∀ x, x < k → Q9 x = q x) → M9 m = some (300, .inl (8, [.ref sa, .ref ha, .int (nI c), .ref xa, .int (nI tl), .ref ra, .ref la, .ref qa, .int (nI (qcN ql q)), .ref ka, .int (nI rm), .ref pa, .int fs, .int fe, .ref za, .ref wa, .ref ua, .int (nI ap), .int cm, .int (nI nu), .int (nI be), .int (nI en)])) → M9 sa = some (301, .inr (0, 444, .inl S)) → M9 ra = some (304, .inr (0, 384, .inl so7)) → M9 la = some (305, .inr (0, 16, .inl sn7)) → M9 qa = some (306, .inr (0, 24, .inl Q9)) → M9 ka = some (307, .inr (0, 16, .inl K)) → M9 pa = some (308, .inr (0, 16, .inl P)) → mZ [300, 304, 305, 306, 307, 308] M M9 → V X 0 0 55 [some (.ref m), some (.int (nI k)), none] [] M9 from lp55 (qcN ql q + 1) 0 _ _ (by omega) (by omega) (fun x hx => by omega) hO hS hSo hSn hQ hK hP hF
      intro fu55
      induction fu55 with
      | zero => intro k Q9 M9 hk0 hk hQa hO hS hSo hSn hQ hK hP hF; omega
      | succ fu55 ih55 =>
        intro k Q9 M9 hk0 hk hQa hO hS hSo hSn hQ hK hP hF
        refine s_iload_n C 56 dX7_findResults_55 rfl rfl ?_
        refine s_aload_n C 57 dX7_findResults_56 rfl rfl ?_
        refine s_getf C 60 dX7_findResults_57 rfl f_X7_72 hO rfl ?_
        refine s_icmp_geN C 83 63 dX7_findResults_60 (by decide) rfl (by omega) (by omega) (fun z60 => ?_) (fun z60 => ?_)
        · skip
          have hke : k = qcN ql q := by omega
          refine s_aload_n C 84 dX7_findResults_83 rfl rfl ?_
          refine s_invV C 87 0 0 [] (mRv_of hO rfl) dX7_findResults_84 rfl m_X7_90 (n_findPlaces hO hS hx8 hok hSo hSn hsr hQ (a := q) (fun x hx => hQa x (by omega)) hP (by omega) (fun h7 => qc_last hok h7)) rfl rfl rfl ⟨by decide, by decide⟩ (Nat.le_of_ble_eq_true rfl) (by omega) (by omega) ?_
          rintro _ M24 ⟨rfl, ⟨P7, hP7, hpp7⟩, hFp⟩
          dsimp only [Option.toList, List.cons_append, List.nil_append]
          have hO := hFp.at hO (by decide)
          have hS := hFp.at hS (by decide)
          have hSo := hFp.at hSo (by decide)
          have hSn := hFp.at hSn (by decide)
          have hQ := hFp.at hQ (by decide)
          have hK := hFp.at hK (by decide)
          have hP := hP7
          have hF := hF.tr (hFp.mono (by decide))
          have hpp : ∀ u, u < T → P7 u = oI (pmO mo ql q (ln u) (fl u)) := hpp7
          refine s_aload_n C 88 dX7_findResults_87 rfl rfl ?_
          refine s_iconst C 89 (nI 0) dX7_findResults_88 rfl (by decide) ?_
          refine s_putU C 92 dX7_findResults_89 rfl p_X7_93 hO (by first | decide | omega) rfl rfl rfl (fs' := [.ref sa, .ref ha, .int (nI c), .ref xa, .int (nI tl), .ref ra, .ref la, .ref qa, .int (nI (qcN ql q)), .ref ka, .int (nI 0), .ref pa, .int fs, .int fe, .ref za, .ref wa, .ref ua, .int (nI ap), .int cm, .int (nI nu), .int (nI be), .int (nI en)]) rfl (fun M25 U26 => ?_)
          have hS := U26.o hO hS (by first | decide | omega)
          have hSo := U26.o hO hSo (by first | decide | omega)
          have hSn := U26.o hO hSn (by first | decide | omega)
          have hQ := U26.o hO hQ (by first | decide | omega)
          have hK := U26.o hO hK (by first | decide | omega)
          have hP := U26.o hO hP (by first | decide | omega)
          have hF := hF.put U26 hO (by first | decide | (simp; done) | (simp; omega) | (simp [*]; done))
          have hO := U26.s
          refine s_iconst C 93 (nI 0) dX7_findResults_92 rfl (by decide) ?_
          refine s_istore_n C 94 dX7_findResults_93 rfl rfl rfl ?_
          dsimp only [List.set]
          suffices lp94 : ∀ (fu94 : Nat) (t : Nat) (K9 : Nat → Int32) (M9 : mM), T - t < fu94 → t ≤ T → (∀ j, j < (rkN T mo od ql q ln fl us t).1 → K9 j = nI ((rkN T mo od ql q ln fl us t).2 j)) → M9 m = some (300, .inl (8, [.ref sa, .ref ha, .int (nI c), .ref xa, .int (nI tl), .ref ra, .ref la, .ref qa, .int (nI (qcN ql q)), .ref ka, .int (nI ((rkN T mo od ql q ln fl us t).1)), .ref pa, .int fs, .int fe, .ref za, .ref wa, .ref ua, .int (nI ap), .int cm, .int (nI nu), .int (nI be), .int (nI en)])) → M9 sa = some (301, .inr (0, 444, .inl S)) → M9 ra = some (304, .inr (0, 384, .inl so7)) → M9 la = some (305, .inr (0, 16, .inl sn7)) → M9 qa = some (306, .inr (0, 24, .inl Q9)) → M9 ka = some (307, .inr (0, 16, .inl K9)) → M9 pa = some (308, .inr (0, 16, .inl P7)) → mZ [300, 304, 305, 306, 307, 308] M M9 → V X 0 0 94 [some (.ref m), some (.int (nI t)), none] [] M9 from lp94 (T + 1) 0 _ _ (by omega) (by omega) (fun j hj => absurd hj (Nat.not_lt_zero _)) hO hS hSo hSn hQ hK hP hF
          intro fu94
          induction fu94 with
          | zero => intro t K9 M9 ht0 ht hkk hO hS hSo hSn hQ hK hP hF; omega
          | succ fu94 ih94 =>
            intro t K9 M9 ht0 ht hkk hO hS hSo hSn hQ hK hP hF
            have hin := rkS_in (B := fun x y => cbB od x ((pmO mo ql q (ln x) (fl x)).getD 0) y ((pmO mo ql q (ln y) (fl y)).getD 0) ln fl us) (pm := fun x => pmO mo ql q (ln x) (fl x)) t
            have hin1 : (rkN T mo od ql q ln fl us t).1 ≤ t := hin.1
            have hin2 : ∀ j, j < (rkN T mo od ql q ln fl us t).1 → (rkN T mo od ql q ln fl us t).2 j < t ∧ (pmO mo ql q (ln ((rkN T mo od ql q ln fl us t).2 j)) (fl ((rkN T mo od ql q ln fl us t).2 j))).isSome = true := hin.2
            refine s_iload_n C 95 dX7_findResults_94 rfl rfl ?_
            refine s_aload_n C 96 dX7_findResults_95 rfl rfl ?_
            refine s_getf C 99 dX7_findResults_96 rfl f_X7_7 hO rfl ?_
            refine s_iconst C 100 (nI 0) dX7_findResults_99 rfl (by decide) ?_
            refine s_iald C 101 dX7_findResults_100 rfl hS (by omega) (by omega) ?_
            rw [hx0]
            refine s_icmp_geN C 183 104 dX7_findResults_101 (by decide) rfl (by omega) (by omega) (fun z101 => ?_) (fun z101 => ?_)
            · skip
              have hte : t = T := by omega
              rw [hte] at hO hkk
              exact s_vret C dX7_findResults_183 Tr rfl ⟨rfl, hO, ⟨_, _, hSo, hSn, hsr⟩, ⟨_, hQ⟩, ⟨_, hK, hkk⟩, ⟨_, hP, hpp⟩, hF⟩
            · skip
              refine s_aload_n C 105 dX7_findResults_104 rfl rfl ?_
              refine s_getf C 108 dX7_findResults_105 rfl f_X7_31 hO rfl ?_
              refine s_iload_n C 109 dX7_findResults_108 rfl rfl ?_
              refine s_iald C 110 dX7_findResults_109 rfl hP (by omega) (by omega) ?_
              rw [hpp t (by omega)]
              refine s_bipush C 112 (-6) dX7_findResults_110 rfl (by decide) ?_
              refine s_icmp_eq C 177 115 dX7_findResults_112 (by decide) rfl (fun z112 => ?_) (fun z112 => ?_)
              · skip
                have hp26 := pmO_lt (mo := mo) (ql := ql) (q := q) (f := fl t) (hok.V t (by omega)).2.1
                have hno : pmO mo ql q (ln t) (fl t) = none := (oI_n (fun j hj => by have := hp26 j hj; omega)).mp z112
                have hstep : (rkN T mo od ql q ln fl us (t + 1)) = (rkN T mo od ql q ln fl us t) := by unfold rkN; rw [rkS, if_neg (by simp [hno])]
                refine s_iinc C 180 (nI (t + 1)) dX7_findResults_177 rfl rfl (by rw [← nI_add]; rfl) rfl ?_
                dsimp only [List.set]
                refine s_goto C 94 dX7_findResults_180 (by decide) ?_
                exact ih94 (t + 1) _ _ (by omega) (by omega) (by rw [hstep]; exact hkk) (by rw [hstep]; exact hO) hS hSo hSn hQ hK hP hF
              · skip
                obtain ⟨pp, hpp2⟩ : ∃ pp, pmO mo ql q (ln t) (fl t) = some pp := by cases e : pmO mo ql q (ln t) (fl t) with | none => exact absurd (by rw [e]; rfl) z112 | some p => exact ⟨p, rfl⟩
                have hstep : (rkN T mo od ql q ln fl us (t + 1)) = ((rkN T mo od ql q ln fl us t).1 + 1, insR (rkN T mo od ql q ln fl us t).2 (insK (fun y => cbB od t (plN mo ql q ln fl t) y (plN mo ql q ln fl y) ln fl us) (rkN T mo od ql q ln fl us t).2 (rkN T mo od ql q ln fl us t).1) t) := by unfold rkN plN; rw [rkS, if_pos (by simp [hpp2])]
                have hpt2 : P7 t = nI (plN mo ql q ln fl t) := by rw [hpp t (by omega)]; unfold plN; rw [hpp2]; rfl
                have hpt3 : plN mo ql q ln fl t < 1000 := by unfold plN; rw [hpp2]; have := pmO_lt (mo := mo) (ql := ql) (q := q) (f := fl t) (hok.V t (by omega)).2.1 pp hpp2; show pp < 1000; omega
                refine s_aload_n C 116 dX7_findResults_115 rfl rfl ?_
                refine s_getf C 119 dX7_findResults_116 rfl f_X7_93 hO rfl ?_
                refine s_istore_n C 120 dX7_findResults_119 rfl rfl rfl ?_
                dsimp only [List.set]
                suffices lp120 : ∀ (fu120 : Nat) (i : Nat) (K8 : Nat → Int32) (M8 : mM), i < fu120 → i ≤ (rkN T mo od ql q ln fl us t).1 → insK (fun y => cbB od t (plN mo ql q ln fl t) y (plN mo ql q ln fl y) ln fl us) (rkN T mo od ql q ln fl us t).2 (rkN T mo od ql q ln fl us t).1 = insK (fun y => cbB od t (plN mo ql q ln fl t) y (plN mo ql q ln fl y) ln fl us) (rkN T mo od ql q ln fl us t).2 i → (∀ j, j < i → K8 j = nI ((rkN T mo od ql q ln fl us t).2 j)) → (∀ j, i < j → j ≤ (rkN T mo od ql q ln fl us t).1 → K8 j = nI ((rkN T mo od ql q ln fl us t).2 (j - 1))) → M8 m = some (300, .inl (8, [.ref sa, .ref ha, .int (nI c), .ref xa, .int (nI tl), .ref ra, .ref la, .ref qa, .int (nI (qcN ql q)), .ref ka, .int (nI ((rkN T mo od ql q ln fl us t).1)), .ref pa, .int fs, .int fe, .ref za, .ref wa, .ref ua, .int (nI ap), .int cm, .int (nI nu), .int (nI be), .int (nI en)])) → M8 sa = some (301, .inr (0, 444, .inl S)) → M8 ra = some (304, .inr (0, 384, .inl so7)) → M8 la = some (305, .inr (0, 16, .inl sn7)) → M8 qa = some (306, .inr (0, 24, .inl Q9)) → M8 ka = some (307, .inr (0, 16, .inl K8)) → M8 pa = some (308, .inr (0, 16, .inl P7)) → mZ [300, 304, 305, 306, 307, 308] M M8 → V X 0 0 120 [some (.ref m), some (.int (nI t)), some (.int (nI i))] [] M8 from lp120 ((rkN T mo od ql q ln fl us t).1 + 1) _ _ _ (by omega) (by omega) rfl hkk (fun j h1 h2 => by omega) hO hS hSo hSn hQ hK hP hF
                intro fu120
                induction fu120 with
                | zero => intro i K8 M8 hi0 hi hKi hlo hhi hO hS hSo hSn hQ hK hP hF; omega
                | succ fu120 ih120 =>
                  intro i K8 M8 hi0 hi hKi hlo hhi hO hS hSo hSn hQ hK hP hF
                  refine s_iload_n C 121 dX7_findResults_120 rfl rfl ?_
                  refine s_if_leN C 160 124 dX7_findResults_121 (by decide) rfl (by omega) (fun z121 => ?_) (fun z121 => ?_)
                  · skip
                    have hi7 : i = 0 := by omega
                    have hz : insK (fun y => cbB od t (plN mo ql q ln fl t) y (plN mo ql q ln fl y) ln fl us) (rkN T mo od ql q ln fl us t).2 (rkN T mo od ql q ln fl us t).1 = i := by rw [hKi, hi7]; rfl
                    refine s_aload_n C 161 dX7_findResults_160 rfl rfl ?_
                    refine s_getf C 164 dX7_findResults_161 rfl f_X7_28 hO rfl ?_
                    refine s_iload_n C 165 dX7_findResults_164 rfl rfl ?_
                    refine s_iload_n C 166 dX7_findResults_165 rfl rfl ?_
                    refine s_iastU C 167 dX7_findResults_166 rfl hK (by first | decide | omega) (by omega) (by omega) (fun M27 U28 => ?_)
                    have hO := U28.o hK hO (by first | decide | omega)
                    have hS := U28.o hK hS (by first | decide | omega)
                    have hSo := U28.o hK hSo (by first | decide | omega)
                    have hSn := U28.o hK hSn (by first | decide | omega)
                    have hQ := U28.o hK hQ (by first | decide | omega)
                    have hP := U28.o hK hP (by first | decide | omega)
                    have hF := hF.put U28 hK (by first | decide | (simp; done) | (simp; omega) | (simp [*]; done))
                    have hK := U28.s
                    have hkk7 : ∀ j, j < (rkN T mo od ql q ln fl us (t + 1)).1 → (upd K8 i (nI t)) j = nI ((rkN T mo od ql q ln fl us (t + 1)).2 j) := fun j hj => by rw [hstep] at hj ⊢; show _ = nI (insR (rkN T mo od ql q ln fl us t).2 (insK (fun y => cbB od t (plN mo ql q ln fl t) y (plN mo ql q ln fl y) ln fl us) (rkN T mo od ql q ln fl us t).2 (rkN T mo od ql q ln fl us t).1) t j); rw [hz]; unfold insR; by_cases e1 : j < i; (· rw [if_pos e1, pk_un (by omega)]; exact hlo j e1); rw [if_neg e1]; by_cases e2 : j = i; (· rw [if_pos e2, e2, pk_us]); rw [if_neg e2, pk_un e2]; exact hhi j (by omega) (by have : j < (rkN T mo od ql q ln fl us t).1 + 1 := hj; omega)
                    refine s_aload_n C 168 dX7_findResults_167 rfl rfl ?_
                    refine s_dup C 169 dX7_findResults_168 rfl rfl ?_
                    refine s_getf C 172 dX7_findResults_169 rfl f_X7_93 hO rfl ?_
                    refine s_iconst C 173 (nI 1) dX7_findResults_172 rfl (by decide) ?_
                    refine s_iaddN C 174 dX7_findResults_173 rfl ?_
                    refine s_putU C 177 dX7_findResults_174 rfl p_X7_93 hO (by first | decide | omega) rfl rfl rfl (fs' := [.ref sa, .ref ha, .int (nI c), .ref xa, .int (nI tl), .ref ra, .ref la, .ref qa, .int (nI (qcN ql q)), .ref ka, .int (nI (((rkN T mo od ql q ln fl us t).1) + 1)), .ref pa, .int fs, .int fe, .ref za, .ref wa, .ref ua, .int (nI ap), .int cm, .int (nI nu), .int (nI be), .int (nI en)]) rfl (fun M29 U30 => ?_)
                    have hS := U30.o hO hS (by first | decide | omega)
                    have hSo := U30.o hO hSo (by first | decide | omega)
                    have hSn := U30.o hO hSn (by first | decide | omega)
                    have hQ := U30.o hO hQ (by first | decide | omega)
                    have hK := U30.o hO hK (by first | decide | omega)
                    have hP := U30.o hO hP (by first | decide | omega)
                    have hF := hF.put U30 hO (by first | decide | (simp; done) | (simp; omega) | (simp [*]; done))
                    have hO := U30.s
                    refine s_iinc C 180 (nI (t + 1)) dX7_findResults_177 rfl rfl (by rw [← nI_add]; rfl) rfl ?_
                    dsimp only [List.set]
                    refine s_goto C 94 dX7_findResults_180 (by decide) ?_
                    refine V.drop 2 ?_
                    dsimp only [List.set]
                    exact ih94 (t + 1) _ _ (by omega) (by omega) hkk7 (by rw [hstep]; exact hO) hS hSo hSn hQ hK hP hF
                  · skip
                    refine s_aload_n C 125 dX7_findResults_124 rfl rfl ?_
                    refine s_iload_n C 126 dX7_findResults_125 rfl rfl ?_
                    refine s_aload_n C 127 dX7_findResults_126 rfl rfl ?_
                    refine s_getf C 130 dX7_findResults_127 rfl f_X7_28 hO rfl ?_
                    refine s_iload_n C 131 dX7_findResults_130 rfl rfl ?_
                    refine s_iconst C 132 (nI 1) dX7_findResults_131 rfl (by decide) ?_
                    refine s_isubN C 133 dX7_findResults_132 rfl (by omega) ?_
                    refine s_iald C 134 dX7_findResults_133 rfl hK (by omega) (by omega) ?_
                    rw [hlo (i - 1) (by omega)]
                    obtain ⟨hu1, hu2⟩ := hin2 (i - 1) (by omega)
                    obtain ⟨u, hu⟩ : ∃ u, u = (rkN T mo od ql q ln fl us t).2 (i - 1) := ⟨_, rfl⟩
                    rw [← hu] at hu1 hu2 ⊢
                    obtain ⟨pu, hpu⟩ := Option.isSome_iff_exists.mp hu2
                    have hpu2 : P7 u = nI (plN mo ql q ln fl u) := by rw [hpp u (by omega)]; unfold plN; rw [hpu]; rfl
                    have hpu3 : plN mo ql q ln fl u < 1000 := by unfold plN; rw [hpu]; have := pmO_lt (mo := mo) (ql := ql) (q := q) (f := fl u) (hok.V u (by omega)).2.1 pu hpu; show pu < 1000; omega
                    refine s_invV C 137 0 0 [] (mRv_of hO rfl) dX7_findResults_134 rfl m_X7_96 (n_ahead hO hS hx8 hok hP (t := t) (u := u) (by omega) (by omega) (by omega) hpt2 hpu2 hpt3 hpu3) rfl rfl rfl ⟨by decide, by decide⟩ (Nat.le_of_ble_eq_true rfl) (by omega) (by omega) ?_
                    rintro _ M31 ⟨rfl, rfl⟩
                    dsimp only [Option.toList, List.cons_append, List.nil_append]
                    rw [hu]
                    refine s_if_eqB C 160 140 dX7_findResults_137 (by decide) rfl (fun z137 => ?_) (fun z137 => ?_)
                    · skip
                      have hz : insK (fun y => cbB od t (plN mo ql q ln fl t) y (plN mo ql q ln fl y) ln fl us) (rkN T mo od ql q ln fl us t).2 (rkN T mo od ql q ln fl us t).1 = i := by rw [hKi]; exact insK_f (by omega) (by exact z137)
                      refine s_aload_n C 161 dX7_findResults_160 rfl rfl ?_
                      refine s_getf C 164 dX7_findResults_161 rfl f_X7_28 hO rfl ?_
                      refine s_iload_n C 165 dX7_findResults_164 rfl rfl ?_
                      refine s_iload_n C 166 dX7_findResults_165 rfl rfl ?_
                      refine s_iastU C 167 dX7_findResults_166 rfl hK (by first | decide | omega) (by omega) (by omega) (fun M32 U33 => ?_)
                      have hO := U33.o hK hO (by first | decide | omega)
                      have hS := U33.o hK hS (by first | decide | omega)
                      have hSo := U33.o hK hSo (by first | decide | omega)
                      have hSn := U33.o hK hSn (by first | decide | omega)
                      have hQ := U33.o hK hQ (by first | decide | omega)
                      have hP := U33.o hK hP (by first | decide | omega)
                      have hF := hF.put U33 hK (by first | decide | (simp; done) | (simp; omega) | (simp [*]; done))
                      have hK := U33.s
                      have hkk7 : ∀ j, j < (rkN T mo od ql q ln fl us (t + 1)).1 → (upd K8 i (nI t)) j = nI ((rkN T mo od ql q ln fl us (t + 1)).2 j) := fun j hj => by rw [hstep] at hj ⊢; show _ = nI (insR (rkN T mo od ql q ln fl us t).2 (insK (fun y => cbB od t (plN mo ql q ln fl t) y (plN mo ql q ln fl y) ln fl us) (rkN T mo od ql q ln fl us t).2 (rkN T mo od ql q ln fl us t).1) t j); rw [hz]; unfold insR; by_cases e1 : j < i; (· rw [if_pos e1, pk_un (by omega)]; exact hlo j e1); rw [if_neg e1]; by_cases e2 : j = i; (· rw [if_pos e2, e2, pk_us]); rw [if_neg e2, pk_un e2]; exact hhi j (by omega) (by have : j < (rkN T mo od ql q ln fl us t).1 + 1 := hj; omega)
                      refine s_aload_n C 168 dX7_findResults_167 rfl rfl ?_
                      refine s_dup C 169 dX7_findResults_168 rfl rfl ?_
                      refine s_getf C 172 dX7_findResults_169 rfl f_X7_93 hO rfl ?_
                      refine s_iconst C 173 (nI 1) dX7_findResults_172 rfl (by decide) ?_
                      refine s_iaddN C 174 dX7_findResults_173 rfl ?_
                      refine s_putU C 177 dX7_findResults_174 rfl p_X7_93 hO (by first | decide | omega) rfl rfl rfl (fs' := [.ref sa, .ref ha, .int (nI c), .ref xa, .int (nI tl), .ref ra, .ref la, .ref qa, .int (nI (qcN ql q)), .ref ka, .int (nI (((rkN T mo od ql q ln fl us t).1) + 1)), .ref pa, .int fs, .int fe, .ref za, .ref wa, .ref ua, .int (nI ap), .int cm, .int (nI nu), .int (nI be), .int (nI en)]) rfl (fun M34 U35 => ?_)
                      have hS := U35.o hO hS (by first | decide | omega)
                      have hSo := U35.o hO hSo (by first | decide | omega)
                      have hSn := U35.o hO hSn (by first | decide | omega)
                      have hQ := U35.o hO hQ (by first | decide | omega)
                      have hK := U35.o hO hK (by first | decide | omega)
                      have hP := U35.o hO hP (by first | decide | omega)
                      have hF := hF.put U35 hO (by first | decide | (simp; done) | (simp; omega) | (simp [*]; done))
                      have hO := U35.s
                      refine s_iinc C 180 (nI (t + 1)) dX7_findResults_177 rfl rfl (by rw [← nI_add]; rfl) rfl ?_
                      dsimp only [List.set]
                      refine s_goto C 94 dX7_findResults_180 (by decide) ?_
                      refine V.drop 2 ?_
                      dsimp only [List.set]
                      exact ih94 (t + 1) _ _ (by omega) (by omega) hkk7 (by rw [hstep]; exact hO) hS hSo hSn hQ hK hP hF
                    · skip
                      refine s_aload_n C 141 dX7_findResults_140 rfl rfl ?_
                      refine s_getf C 144 dX7_findResults_141 rfl f_X7_28 hO rfl ?_
                      refine s_iload_n C 145 dX7_findResults_144 rfl rfl ?_
                      refine s_aload_n C 146 dX7_findResults_145 rfl rfl ?_
                      refine s_getf C 149 dX7_findResults_146 rfl f_X7_28 hO rfl ?_
                      refine s_iload_n C 150 dX7_findResults_149 rfl rfl ?_
                      refine s_iconst C 151 (nI 1) dX7_findResults_150 rfl (by decide) ?_
                      refine s_isubN C 152 dX7_findResults_151 rfl (by omega) ?_
                      refine s_iald C 153 dX7_findResults_152 rfl hK (by omega) (by omega) ?_
                      rw [hlo (i - 1) (by omega)]
                      refine s_iastU C 154 dX7_findResults_153 rfl hK (by first | decide | omega) (by omega) (by omega) (fun M36 U37 => ?_)
                      have hO := U37.o hK hO (by first | decide | omega)
                      have hS := U37.o hK hS (by first | decide | omega)
                      have hSo := U37.o hK hSo (by first | decide | omega)
                      have hSn := U37.o hK hSn (by first | decide | omega)
                      have hQ := U37.o hK hQ (by first | decide | omega)
                      have hP := U37.o hK hP (by first | decide | omega)
                      have hF := hF.put U37 hK (by first | decide | (simp; done) | (simp; omega) | (simp [*]; done))
                      have hK := U37.s
                      refine s_iinc C 157 (nI (i - 1)) dX7_findResults_154 rfl rfl (nI_dec (by omega)) rfl ?_
                      dsimp only [List.set]
                      refine s_goto C 120 dX7_findResults_157 (by decide) ?_
                      exact ih120 (i - 1) _ _ (by omega) (by omega) (by rw [hKi, insK_t (by omega) (by exact z137)]) (fun j hj => by rw [pk_un (by omega)]; exact hlo j (by omega)) (fun j h1 h2 => by by_cases e : j = i; (· rw [e, pk_us]); rw [pk_un e]; exact hhi j (by omega) h2) hO hS hSo hSn hQ hK hP hF
        · skip
          refine s_aload_n C 64 dX7_findResults_63 rfl rfl ?_
          refine s_getf C 67 dX7_findResults_64 rfl f_X7_25 hO rfl ?_
          refine s_iload_n C 68 dX7_findResults_67 rfl rfl ?_
          refine s_aload_n C 69 dX7_findResults_68 rfl rfl ?_
          refine s_getf C 72 dX7_findResults_69 rfl f_X7_7 hO rfl ?_
          refine s_iconst C 73 (nI 4) dX7_findResults_72 rfl (by decide) ?_
          refine s_iload_n C 74 dX7_findResults_73 rfl rfl ?_
          refine s_iaddN C 75 dX7_findResults_74 rfl ?_
          refine s_iald C 76 dX7_findResults_75 rfl hS (by omega) (by omega) ?_
          rw [hxq k (by omega)]
          refine s_iastU C 77 dX7_findResults_76 rfl hQ (by first | decide | omega) (by omega) (by omega) (fun M38 U39 => ?_)
          have hO := U39.o hQ hO (by first | decide | omega)
          have hS := U39.o hQ hS (by first | decide | omega)
          have hSo := U39.o hQ hSo (by first | decide | omega)
          have hSn := U39.o hQ hSn (by first | decide | omega)
          have hK := U39.o hQ hK (by first | decide | omega)
          have hP := U39.o hQ hP (by first | decide | omega)
          have hF := hF.put U39 hQ (by first | decide | (simp; done) | (simp; omega) | (simp [*]; done))
          have hQ := U39.s
          refine s_iinc C 80 (nI (k + 1)) dX7_findResults_77 rfl rfl (by rw [← nI_add]; rfl) rfl ?_
          dsimp only [List.set]
          refine s_goto C 55 dX7_findResults_80 (by decide) ?_
          exact ih55 (k + 1) _ _ (by omega) (by omega) (fun x hx => by by_cases e : x = k; (· rw [e, pk_us]); rw [pk_un e]; exact hQa x (by omega)) hO hS hSo hSn hQ hK hP hF
    · skip
      refine s_iconst C 45 (nI 1) dX7_findResults_44 rfl (by decide) ?_
      refine s_goto C 49 dX7_findResults_45 (by decide) ?_
      refine s_isubN C 50 dX7_findResults_49 rfl (by omega) ?_
      refine s_putU C 53 dX7_findResults_50 rfl p_X7_72 hO (by first | decide | omega) rfl rfl rfl (fs' := [.ref sa, .ref ha, .int (nI c), .ref xa, .int (nI tl), .ref ra, .ref la, .ref qa, .int (nI (ql - 1)), .ref ka, .int (nI rm), .ref pa, .int fs, .int fe, .ref za, .ref wa, .ref ua, .int (nI ap), .int cm, .int (nI nu), .int (nI be), .int (nI en)]) rfl (fun M40 U41 => ?_)
      have hS := U41.o hO hS (by first | decide | omega)
      have hSo := U41.o hO hSo (by first | decide | omega)
      have hSn := U41.o hO hSn (by first | decide | omega)
      have hQ := U41.o hO hQ (by first | decide | omega)
      have hK := U41.o hO hK (by first | decide | omega)
      have hP := U41.o hO hP (by first | decide | omega)
      have hF := hF.put U41 hO (by first | decide | (simp; done) | (simp; omega) | (simp [*]; done))
      have hO := U41.s
      have hqc : ql - 1 = qcN ql q := by rcases qc_cases (ql := ql) (q := q) with ⟨h1, h2⟩ | ⟨h1, h2, h3⟩ | ⟨h1, h2, h3⟩ <;> first | omega | (exact absurd h2 z41) | (exact absurd z41 h2)
      rw [hqc] at hO
      have hqle := qcN_le (ql := ql) (q := q)
      refine s_iconst C 54 (nI 0) dX7_findResults_53 rfl (by decide) ?_
      refine s_istore_n C 55 dX7_findResults_54 rfl rfl rfl ?_
      dsimp only [List.set]
      suffices lp55 : ∀ (fu55 : Nat) (k : Nat) (Q9 : Nat → Int32) (M9 : mM), qcN ql q - k < fu55 → k ≤ qcN ql q → (∀ x, x < k → Q9 x = q x) → M9 m = some (300, .inl (8, [.ref sa, .ref ha, .int (nI c), .ref xa, .int (nI tl), .ref ra, .ref la, .ref qa, .int (nI (qcN ql q)), .ref ka, .int (nI rm), .ref pa, .int fs, .int fe, .ref za, .ref wa, .ref ua, .int (nI ap), .int cm, .int (nI nu), .int (nI be), .int (nI en)])) → M9 sa = some (301, .inr (0, 444, .inl S)) → M9 ra = some (304, .inr (0, 384, .inl so7)) → M9 la = some (305, .inr (0, 16, .inl sn7)) → M9 qa = some (306, .inr (0, 24, .inl Q9)) → M9 ka = some (307, .inr (0, 16, .inl K)) → M9 pa = some (308, .inr (0, 16, .inl P)) → mZ [300, 304, 305, 306, 307, 308] M M9 → V X 0 0 55 [some (.ref m), some (.int (nI k)), none] [] M9 from lp55 (qcN ql q + 1) 0 _ _ (by omega) (by omega) (fun x hx => by omega) hO hS hSo hSn hQ hK hP hF
      intro fu55
      induction fu55 with
      | zero => intro k Q9 M9 hk0 hk hQa hO hS hSo hSn hQ hK hP hF; omega
      | succ fu55 ih55 =>
        intro k Q9 M9 hk0 hk hQa hO hS hSo hSn hQ hK hP hF
        refine s_iload_n C 56 dX7_findResults_55 rfl rfl ?_
        refine s_aload_n C 57 dX7_findResults_56 rfl rfl ?_
        refine s_getf C 60 dX7_findResults_57 rfl f_X7_72 hO rfl ?_
        refine s_icmp_geN C 83 63 dX7_findResults_60 (by decide) rfl (by omega) (by omega) (fun z60 => ?_) (fun z60 => ?_)
        · skip
          have hke : k = qcN ql q := by omega
          refine s_aload_n C 84 dX7_findResults_83 rfl rfl ?_
          refine s_invV C 87 0 0 [] (mRv_of hO rfl) dX7_findResults_84 rfl m_X7_90 (n_findPlaces hO hS hx8 hok hSo hSn hsr hQ (a := q) (fun x hx => hQa x (by omega)) hP (by omega) (fun h7 => qc_last hok h7)) rfl rfl rfl ⟨by decide, by decide⟩ (Nat.le_of_ble_eq_true rfl) (by omega) (by omega) ?_
          rintro _ M42 ⟨rfl, ⟨P7, hP7, hpp7⟩, hFp⟩
          dsimp only [Option.toList, List.cons_append, List.nil_append]
          have hO := hFp.at hO (by decide)
          have hS := hFp.at hS (by decide)
          have hSo := hFp.at hSo (by decide)
          have hSn := hFp.at hSn (by decide)
          have hQ := hFp.at hQ (by decide)
          have hK := hFp.at hK (by decide)
          have hP := hP7
          have hF := hF.tr (hFp.mono (by decide))
          have hpp : ∀ u, u < T → P7 u = oI (pmO mo ql q (ln u) (fl u)) := hpp7
          refine s_aload_n C 88 dX7_findResults_87 rfl rfl ?_
          refine s_iconst C 89 (nI 0) dX7_findResults_88 rfl (by decide) ?_
          refine s_putU C 92 dX7_findResults_89 rfl p_X7_93 hO (by first | decide | omega) rfl rfl rfl (fs' := [.ref sa, .ref ha, .int (nI c), .ref xa, .int (nI tl), .ref ra, .ref la, .ref qa, .int (nI (qcN ql q)), .ref ka, .int (nI 0), .ref pa, .int fs, .int fe, .ref za, .ref wa, .ref ua, .int (nI ap), .int cm, .int (nI nu), .int (nI be), .int (nI en)]) rfl (fun M43 U44 => ?_)
          have hS := U44.o hO hS (by first | decide | omega)
          have hSo := U44.o hO hSo (by first | decide | omega)
          have hSn := U44.o hO hSn (by first | decide | omega)
          have hQ := U44.o hO hQ (by first | decide | omega)
          have hK := U44.o hO hK (by first | decide | omega)
          have hP := U44.o hO hP (by first | decide | omega)
          have hF := hF.put U44 hO (by first | decide | (simp; done) | (simp; omega) | (simp [*]; done))
          have hO := U44.s
          refine s_iconst C 93 (nI 0) dX7_findResults_92 rfl (by decide) ?_
          refine s_istore_n C 94 dX7_findResults_93 rfl rfl rfl ?_
          dsimp only [List.set]
          suffices lp94 : ∀ (fu94 : Nat) (t : Nat) (K9 : Nat → Int32) (M9 : mM), T - t < fu94 → t ≤ T → (∀ j, j < (rkN T mo od ql q ln fl us t).1 → K9 j = nI ((rkN T mo od ql q ln fl us t).2 j)) → M9 m = some (300, .inl (8, [.ref sa, .ref ha, .int (nI c), .ref xa, .int (nI tl), .ref ra, .ref la, .ref qa, .int (nI (qcN ql q)), .ref ka, .int (nI ((rkN T mo od ql q ln fl us t).1)), .ref pa, .int fs, .int fe, .ref za, .ref wa, .ref ua, .int (nI ap), .int cm, .int (nI nu), .int (nI be), .int (nI en)])) → M9 sa = some (301, .inr (0, 444, .inl S)) → M9 ra = some (304, .inr (0, 384, .inl so7)) → M9 la = some (305, .inr (0, 16, .inl sn7)) → M9 qa = some (306, .inr (0, 24, .inl Q9)) → M9 ka = some (307, .inr (0, 16, .inl K9)) → M9 pa = some (308, .inr (0, 16, .inl P7)) → mZ [300, 304, 305, 306, 307, 308] M M9 → V X 0 0 94 [some (.ref m), some (.int (nI t)), none] [] M9 from lp94 (T + 1) 0 _ _ (by omega) (by omega) (fun j hj => absurd hj (Nat.not_lt_zero _)) hO hS hSo hSn hQ hK hP hF
          intro fu94
          induction fu94 with
          | zero => intro t K9 M9 ht0 ht hkk hO hS hSo hSn hQ hK hP hF; omega
          | succ fu94 ih94 =>
            intro t K9 M9 ht0 ht hkk hO hS hSo hSn hQ hK hP hF
            have hin := rkS_in (B := fun x y => cbB od x ((pmO mo ql q (ln x) (fl x)).getD 0) y ((pmO mo ql q (ln y) (fl y)).getD 0) ln fl us) (pm := fun x => pmO mo ql q (ln x) (fl x)) t
            have hin1 : (rkN T mo od ql q ln fl us t).1 ≤ t := hin.1
            have hin2 : ∀ j, j < (rkN T mo od ql q ln fl us t).1 → (rkN T mo od ql q ln fl us t).2 j < t ∧ (pmO mo ql q (ln ((rkN T mo od ql q ln fl us t).2 j)) (fl ((rkN T mo od ql q ln fl us t).2 j))).isSome = true := hin.2
            refine s_iload_n C 95 dX7_findResults_94 rfl rfl ?_
            refine s_aload_n C 96 dX7_findResults_95 rfl rfl ?_
            refine s_getf C 99 dX7_findResults_96 rfl f_X7_7 hO rfl ?_
            refine s_iconst C 100 (nI 0) dX7_findResults_99 rfl (by decide) ?_
            refine s_iald C 101 dX7_findResults_100 rfl hS (by omega) (by omega) ?_
            rw [hx0]
            refine s_icmp_geN C 183 104 dX7_findResults_101 (by decide) rfl (by omega) (by omega) (fun z101 => ?_) (fun z101 => ?_)
            · skip
              have hte : t = T := by omega
              rw [hte] at hO hkk
              exact s_vret C dX7_findResults_183 Tr rfl ⟨rfl, hO, ⟨_, _, hSo, hSn, hsr⟩, ⟨_, hQ⟩, ⟨_, hK, hkk⟩, ⟨_, hP, hpp⟩, hF⟩
            · skip
              refine s_aload_n C 105 dX7_findResults_104 rfl rfl ?_
              refine s_getf C 108 dX7_findResults_105 rfl f_X7_31 hO rfl ?_
              refine s_iload_n C 109 dX7_findResults_108 rfl rfl ?_
              refine s_iald C 110 dX7_findResults_109 rfl hP (by omega) (by omega) ?_
              rw [hpp t (by omega)]
              refine s_bipush C 112 (-6) dX7_findResults_110 rfl (by decide) ?_
              refine s_icmp_eq C 177 115 dX7_findResults_112 (by decide) rfl (fun z112 => ?_) (fun z112 => ?_)
              · skip
                have hp26 := pmO_lt (mo := mo) (ql := ql) (q := q) (f := fl t) (hok.V t (by omega)).2.1
                have hno : pmO mo ql q (ln t) (fl t) = none := (oI_n (fun j hj => by have := hp26 j hj; omega)).mp z112
                have hstep : (rkN T mo od ql q ln fl us (t + 1)) = (rkN T mo od ql q ln fl us t) := by unfold rkN; rw [rkS, if_neg (by simp [hno])]
                refine s_iinc C 180 (nI (t + 1)) dX7_findResults_177 rfl rfl (by rw [← nI_add]; rfl) rfl ?_
                dsimp only [List.set]
                refine s_goto C 94 dX7_findResults_180 (by decide) ?_
                exact ih94 (t + 1) _ _ (by omega) (by omega) (by rw [hstep]; exact hkk) (by rw [hstep]; exact hO) hS hSo hSn hQ hK hP hF
              · skip
                obtain ⟨pp, hpp2⟩ : ∃ pp, pmO mo ql q (ln t) (fl t) = some pp := by cases e : pmO mo ql q (ln t) (fl t) with | none => exact absurd (by rw [e]; rfl) z112 | some p => exact ⟨p, rfl⟩
                have hstep : (rkN T mo od ql q ln fl us (t + 1)) = ((rkN T mo od ql q ln fl us t).1 + 1, insR (rkN T mo od ql q ln fl us t).2 (insK (fun y => cbB od t (plN mo ql q ln fl t) y (plN mo ql q ln fl y) ln fl us) (rkN T mo od ql q ln fl us t).2 (rkN T mo od ql q ln fl us t).1) t) := by unfold rkN plN; rw [rkS, if_pos (by simp [hpp2])]
                have hpt2 : P7 t = nI (plN mo ql q ln fl t) := by rw [hpp t (by omega)]; unfold plN; rw [hpp2]; rfl
                have hpt3 : plN mo ql q ln fl t < 1000 := by unfold plN; rw [hpp2]; have := pmO_lt (mo := mo) (ql := ql) (q := q) (f := fl t) (hok.V t (by omega)).2.1 pp hpp2; show pp < 1000; omega
                refine s_aload_n C 116 dX7_findResults_115 rfl rfl ?_
                refine s_getf C 119 dX7_findResults_116 rfl f_X7_93 hO rfl ?_
                refine s_istore_n C 120 dX7_findResults_119 rfl rfl rfl ?_
                dsimp only [List.set]
                suffices lp120 : ∀ (fu120 : Nat) (i : Nat) (K8 : Nat → Int32) (M8 : mM), i < fu120 → i ≤ (rkN T mo od ql q ln fl us t).1 → insK (fun y => cbB od t (plN mo ql q ln fl t) y (plN mo ql q ln fl y) ln fl us) (rkN T mo od ql q ln fl us t).2 (rkN T mo od ql q ln fl us t).1 = insK (fun y => cbB od t (plN mo ql q ln fl t) y (plN mo ql q ln fl y) ln fl us) (rkN T mo od ql q ln fl us t).2 i → (∀ j, j < i → K8 j = nI ((rkN T mo od ql q ln fl us t).2 j)) → (∀ j, i < j → j ≤ (rkN T mo od ql q ln fl us t).1 → K8 j = nI ((rkN T mo od ql q ln fl us t).2 (j - 1))) → M8 m = some (300, .inl (8, [.ref sa, .ref ha, .int (nI c), .ref xa, .int (nI tl), .ref ra, .ref la, .ref qa, .int (nI (qcN ql q)), .ref ka, .int (nI ((rkN T mo od ql q ln fl us t).1)), .ref pa, .int fs, .int fe, .ref za, .ref wa, .ref ua, .int (nI ap), .int cm, .int (nI nu), .int (nI be), .int (nI en)])) → M8 sa = some (301, .inr (0, 444, .inl S)) → M8 ra = some (304, .inr (0, 384, .inl so7)) → M8 la = some (305, .inr (0, 16, .inl sn7)) → M8 qa = some (306, .inr (0, 24, .inl Q9)) → M8 ka = some (307, .inr (0, 16, .inl K8)) → M8 pa = some (308, .inr (0, 16, .inl P7)) → mZ [300, 304, 305, 306, 307, 308] M M8 → V X 0 0 120 [some (.ref m), some (.int (nI t)), some (.int (nI i))] [] M8 from lp120 ((rkN T mo od ql q ln fl us t).1 + 1) _ _ _ (by omega) (by omega) rfl hkk (fun j h1 h2 => by omega) hO hS hSo hSn hQ hK hP hF
                intro fu120
                induction fu120 with
                | zero => intro i K8 M8 hi0 hi hKi hlo hhi hO hS hSo hSn hQ hK hP hF; omega
                | succ fu120 ih120 =>
                  intro i K8 M8 hi0 hi hKi hlo hhi hO hS hSo hSn hQ hK hP hF
                  refine s_iload_n C 121 dX7_findResults_120 rfl rfl ?_
                  refine s_if_leN C 160 124 dX7_findResults_121 (by decide) rfl (by omega) (fun z121 => ?_) (fun z121 => ?_)
                  · skip
                    have hi7 : i = 0 := by omega
                    have hz : insK (fun y => cbB od t (plN mo ql q ln fl t) y (plN mo ql q ln fl y) ln fl us) (rkN T mo od ql q ln fl us t).2 (rkN T mo od ql q ln fl us t).1 = i := by rw [hKi, hi7]; rfl
                    refine s_aload_n C 161 dX7_findResults_160 rfl rfl ?_
                    refine s_getf C 164 dX7_findResults_161 rfl f_X7_28 hO rfl ?_
                    refine s_iload_n C 165 dX7_findResults_164 rfl rfl ?_
                    refine s_iload_n C 166 dX7_findResults_165 rfl rfl ?_
                    refine s_iastU C 167 dX7_findResults_166 rfl hK (by first | decide | omega) (by omega) (by omega) (fun M45 U46 => ?_)
                    have hO := U46.o hK hO (by first | decide | omega)
                    have hS := U46.o hK hS (by first | decide | omega)
                    have hSo := U46.o hK hSo (by first | decide | omega)
                    have hSn := U46.o hK hSn (by first | decide | omega)
                    have hQ := U46.o hK hQ (by first | decide | omega)
                    have hP := U46.o hK hP (by first | decide | omega)
                    have hF := hF.put U46 hK (by first | decide | (simp; done) | (simp; omega) | (simp [*]; done))
                    have hK := U46.s
                    have hkk7 : ∀ j, j < (rkN T mo od ql q ln fl us (t + 1)).1 → (upd K8 i (nI t)) j = nI ((rkN T mo od ql q ln fl us (t + 1)).2 j) := fun j hj => by rw [hstep] at hj ⊢; show _ = nI (insR (rkN T mo od ql q ln fl us t).2 (insK (fun y => cbB od t (plN mo ql q ln fl t) y (plN mo ql q ln fl y) ln fl us) (rkN T mo od ql q ln fl us t).2 (rkN T mo od ql q ln fl us t).1) t j); rw [hz]; unfold insR; by_cases e1 : j < i; (· rw [if_pos e1, pk_un (by omega)]; exact hlo j e1); rw [if_neg e1]; by_cases e2 : j = i; (· rw [if_pos e2, e2, pk_us]); rw [if_neg e2, pk_un e2]; exact hhi j (by omega) (by have : j < (rkN T mo od ql q ln fl us t).1 + 1 := hj; omega)
                    refine s_aload_n C 168 dX7_findResults_167 rfl rfl ?_
                    refine s_dup C 169 dX7_findResults_168 rfl rfl ?_
                    refine s_getf C 172 dX7_findResults_169 rfl f_X7_93 hO rfl ?_
                    refine s_iconst C 173 (nI 1) dX7_findResults_172 rfl (by decide) ?_
                    refine s_iaddN C 174 dX7_findResults_173 rfl ?_
                    refine s_putU C 177 dX7_findResults_174 rfl p_X7_93 hO (by first | decide | omega) rfl rfl rfl (fs' := [.ref sa, .ref ha, .int (nI c), .ref xa, .int (nI tl), .ref ra, .ref la, .ref qa, .int (nI (qcN ql q)), .ref ka, .int (nI (((rkN T mo od ql q ln fl us t).1) + 1)), .ref pa, .int fs, .int fe, .ref za, .ref wa, .ref ua, .int (nI ap), .int cm, .int (nI nu), .int (nI be), .int (nI en)]) rfl (fun M47 U48 => ?_)
                    have hS := U48.o hO hS (by first | decide | omega)
                    have hSo := U48.o hO hSo (by first | decide | omega)
                    have hSn := U48.o hO hSn (by first | decide | omega)
                    have hQ := U48.o hO hQ (by first | decide | omega)
                    have hK := U48.o hO hK (by first | decide | omega)
                    have hP := U48.o hO hP (by first | decide | omega)
                    have hF := hF.put U48 hO (by first | decide | (simp; done) | (simp; omega) | (simp [*]; done))
                    have hO := U48.s
                    refine s_iinc C 180 (nI (t + 1)) dX7_findResults_177 rfl rfl (by rw [← nI_add]; rfl) rfl ?_
                    dsimp only [List.set]
                    refine s_goto C 94 dX7_findResults_180 (by decide) ?_
                    refine V.drop 2 ?_
                    dsimp only [List.set]
                    exact ih94 (t + 1) _ _ (by omega) (by omega) hkk7 (by rw [hstep]; exact hO) hS hSo hSn hQ hK hP hF
                  · skip
                    refine s_aload_n C 125 dX7_findResults_124 rfl rfl ?_
                    refine s_iload_n C 126 dX7_findResults_125 rfl rfl ?_
                    refine s_aload_n C 127 dX7_findResults_126 rfl rfl ?_
                    refine s_getf C 130 dX7_findResults_127 rfl f_X7_28 hO rfl ?_
                    refine s_iload_n C 131 dX7_findResults_130 rfl rfl ?_
                    refine s_iconst C 132 (nI 1) dX7_findResults_131 rfl (by decide) ?_
                    refine s_isubN C 133 dX7_findResults_132 rfl (by omega) ?_
                    refine s_iald C 134 dX7_findResults_133 rfl hK (by omega) (by omega) ?_
                    rw [hlo (i - 1) (by omega)]
                    obtain ⟨hu1, hu2⟩ := hin2 (i - 1) (by omega)
                    obtain ⟨u, hu⟩ : ∃ u, u = (rkN T mo od ql q ln fl us t).2 (i - 1) := ⟨_, rfl⟩
                    rw [← hu] at hu1 hu2 ⊢
                    obtain ⟨pu, hpu⟩ := Option.isSome_iff_exists.mp hu2
                    have hpu2 : P7 u = nI (plN mo ql q ln fl u) := by rw [hpp u (by omega)]; unfold plN; rw [hpu]; rfl
                    have hpu3 : plN mo ql q ln fl u < 1000 := by unfold plN; rw [hpu]; have := pmO_lt (mo := mo) (ql := ql) (q := q) (f := fl u) (hok.V u (by omega)).2.1 pu hpu; show pu < 1000; omega
                    refine s_invV C 137 0 0 [] (mRv_of hO rfl) dX7_findResults_134 rfl m_X7_96 (n_ahead hO hS hx8 hok hP (t := t) (u := u) (by omega) (by omega) (by omega) hpt2 hpu2 hpt3 hpu3) rfl rfl rfl ⟨by decide, by decide⟩ (Nat.le_of_ble_eq_true rfl) (by omega) (by omega) ?_
                    rintro _ M49 ⟨rfl, rfl⟩
                    dsimp only [Option.toList, List.cons_append, List.nil_append]
                    rw [hu]
                    refine s_if_eqB C 160 140 dX7_findResults_137 (by decide) rfl (fun z137 => ?_) (fun z137 => ?_)
                    · skip
                      have hz : insK (fun y => cbB od t (plN mo ql q ln fl t) y (plN mo ql q ln fl y) ln fl us) (rkN T mo od ql q ln fl us t).2 (rkN T mo od ql q ln fl us t).1 = i := by rw [hKi]; exact insK_f (by omega) (by exact z137)
                      refine s_aload_n C 161 dX7_findResults_160 rfl rfl ?_
                      refine s_getf C 164 dX7_findResults_161 rfl f_X7_28 hO rfl ?_
                      refine s_iload_n C 165 dX7_findResults_164 rfl rfl ?_
                      refine s_iload_n C 166 dX7_findResults_165 rfl rfl ?_
                      refine s_iastU C 167 dX7_findResults_166 rfl hK (by first | decide | omega) (by omega) (by omega) (fun M50 U51 => ?_)
                      have hO := U51.o hK hO (by first | decide | omega)
                      have hS := U51.o hK hS (by first | decide | omega)
                      have hSo := U51.o hK hSo (by first | decide | omega)
                      have hSn := U51.o hK hSn (by first | decide | omega)
                      have hQ := U51.o hK hQ (by first | decide | omega)
                      have hP := U51.o hK hP (by first | decide | omega)
                      have hF := hF.put U51 hK (by first | decide | (simp; done) | (simp; omega) | (simp [*]; done))
                      have hK := U51.s
                      have hkk7 : ∀ j, j < (rkN T mo od ql q ln fl us (t + 1)).1 → (upd K8 i (nI t)) j = nI ((rkN T mo od ql q ln fl us (t + 1)).2 j) := fun j hj => by rw [hstep] at hj ⊢; show _ = nI (insR (rkN T mo od ql q ln fl us t).2 (insK (fun y => cbB od t (plN mo ql q ln fl t) y (plN mo ql q ln fl y) ln fl us) (rkN T mo od ql q ln fl us t).2 (rkN T mo od ql q ln fl us t).1) t j); rw [hz]; unfold insR; by_cases e1 : j < i; (· rw [if_pos e1, pk_un (by omega)]; exact hlo j e1); rw [if_neg e1]; by_cases e2 : j = i; (· rw [if_pos e2, e2, pk_us]); rw [if_neg e2, pk_un e2]; exact hhi j (by omega) (by have : j < (rkN T mo od ql q ln fl us t).1 + 1 := hj; omega)
                      refine s_aload_n C 168 dX7_findResults_167 rfl rfl ?_
                      refine s_dup C 169 dX7_findResults_168 rfl rfl ?_
                      refine s_getf C 172 dX7_findResults_169 rfl f_X7_93 hO rfl ?_
                      refine s_iconst C 173 (nI 1) dX7_findResults_172 rfl (by decide) ?_
                      refine s_iaddN C 174 dX7_findResults_173 rfl ?_
                      refine s_putU C 177 dX7_findResults_174 rfl p_X7_93 hO (by first | decide | omega) rfl rfl rfl (fs' := [.ref sa, .ref ha, .int (nI c), .ref xa, .int (nI tl), .ref ra, .ref la, .ref qa, .int (nI (qcN ql q)), .ref ka, .int (nI (((rkN T mo od ql q ln fl us t).1) + 1)), .ref pa, .int fs, .int fe, .ref za, .ref wa, .ref ua, .int (nI ap), .int cm, .int (nI nu), .int (nI be), .int (nI en)]) rfl (fun M52 U53 => ?_)
                      have hS := U53.o hO hS (by first | decide | omega)
                      have hSo := U53.o hO hSo (by first | decide | omega)
                      have hSn := U53.o hO hSn (by first | decide | omega)
                      have hQ := U53.o hO hQ (by first | decide | omega)
                      have hK := U53.o hO hK (by first | decide | omega)
                      have hP := U53.o hO hP (by first | decide | omega)
                      have hF := hF.put U53 hO (by first | decide | (simp; done) | (simp; omega) | (simp [*]; done))
                      have hO := U53.s
                      refine s_iinc C 180 (nI (t + 1)) dX7_findResults_177 rfl rfl (by rw [← nI_add]; rfl) rfl ?_
                      dsimp only [List.set]
                      refine s_goto C 94 dX7_findResults_180 (by decide) ?_
                      refine V.drop 2 ?_
                      dsimp only [List.set]
                      exact ih94 (t + 1) _ _ (by omega) (by omega) hkk7 (by rw [hstep]; exact hO) hS hSo hSn hQ hK hP hF
                    · skip
                      refine s_aload_n C 141 dX7_findResults_140 rfl rfl ?_
                      refine s_getf C 144 dX7_findResults_141 rfl f_X7_28 hO rfl ?_
                      refine s_iload_n C 145 dX7_findResults_144 rfl rfl ?_
                      refine s_aload_n C 146 dX7_findResults_145 rfl rfl ?_
                      refine s_getf C 149 dX7_findResults_146 rfl f_X7_28 hO rfl ?_
                      refine s_iload_n C 150 dX7_findResults_149 rfl rfl ?_
                      refine s_iconst C 151 (nI 1) dX7_findResults_150 rfl (by decide) ?_
                      refine s_isubN C 152 dX7_findResults_151 rfl (by omega) ?_
                      refine s_iald C 153 dX7_findResults_152 rfl hK (by omega) (by omega) ?_
                      rw [hlo (i - 1) (by omega)]
                      refine s_iastU C 154 dX7_findResults_153 rfl hK (by first | decide | omega) (by omega) (by omega) (fun M54 U55 => ?_)
                      have hO := U55.o hK hO (by first | decide | omega)
                      have hS := U55.o hK hS (by first | decide | omega)
                      have hSo := U55.o hK hSo (by first | decide | omega)
                      have hSn := U55.o hK hSn (by first | decide | omega)
                      have hQ := U55.o hK hQ (by first | decide | omega)
                      have hP := U55.o hK hP (by first | decide | omega)
                      have hF := hF.put U55 hK (by first | decide | (simp; done) | (simp; omega) | (simp [*]; done))
                      have hK := U55.s
                      refine s_iinc C 157 (nI (i - 1)) dX7_findResults_154 rfl rfl (nI_dec (by omega)) rfl ?_
                      dsimp only [List.set]
                      refine s_goto C 120 dX7_findResults_157 (by decide) ?_
                      exact ih120 (i - 1) _ _ (by omega) (by omega) (by rw [hKi, insK_t (by omega) (by exact z137)]) (fun j hj => by rw [pk_un (by omega)]; exact hlo j (by omega)) (fun j h1 h2 => by by_cases e : j = i; (· rw [e, pk_us]); rw [pk_un e]; exact hhi j (by omega) h2) hO hS hSo hSn hQ hK hP hF
        · skip
          refine s_aload_n C 64 dX7_findResults_63 rfl rfl ?_
          refine s_getf C 67 dX7_findResults_64 rfl f_X7_25 hO rfl ?_
          refine s_iload_n C 68 dX7_findResults_67 rfl rfl ?_
          refine s_aload_n C 69 dX7_findResults_68 rfl rfl ?_
          refine s_getf C 72 dX7_findResults_69 rfl f_X7_7 hO rfl ?_
          refine s_iconst C 73 (nI 4) dX7_findResults_72 rfl (by decide) ?_
          refine s_iload_n C 74 dX7_findResults_73 rfl rfl ?_
          refine s_iaddN C 75 dX7_findResults_74 rfl ?_
          refine s_iald C 76 dX7_findResults_75 rfl hS (by omega) (by omega) ?_
          rw [hxq k (by omega)]
          refine s_iastU C 77 dX7_findResults_76 rfl hQ (by first | decide | omega) (by omega) (by omega) (fun M56 U57 => ?_)
          have hO := U57.o hQ hO (by first | decide | omega)
          have hS := U57.o hQ hS (by first | decide | omega)
          have hSo := U57.o hQ hSo (by first | decide | omega)
          have hSn := U57.o hQ hSn (by first | decide | omega)
          have hK := U57.o hQ hK (by first | decide | omega)
          have hP := U57.o hQ hP (by first | decide | omega)
          have hF := hF.put U57 hQ (by first | decide | (simp; done) | (simp; omega) | (simp [*]; done))
          have hQ := U57.s
          refine s_iinc C 80 (nI (k + 1)) dX7_findResults_77 rfl rfl (by rw [← nI_add]; rfl) rfl ?_
          dsimp only [List.set]
          refine s_goto C 55 dX7_findResults_80 (by decide) ?_
          exact ih55 (k + 1) _ _ (by omega) (by omega) (fun x hx => by by_cases e : x = k; (· rw [e, pk_us]); rw [pk_un e]; exact hQa x (by omega)) hO hS hSo hSn hQ hK hP hF
