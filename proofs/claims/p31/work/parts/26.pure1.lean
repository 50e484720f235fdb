/-! pure words, out of the walk of the reference in claim whole -/
/-- what holds of a state -/
def okX (T mo od ql : Nat) (q : Nat → Int32) (ln : Nat → Nat) (fl : Nat → Nat → Int32) : Prop := T ≤ 16 ∧ mo < 4 ∧ od < 3 ∧ ql ≤ 24 ∧ (∀ t, t < T → TV (ln t) (fl t)) ∧ (∀ t u, t < T → u < T → t ≠ u → eqT (fl t) (fl u) (ln t) (ln u) = false) ∧ ∀ k, k + 1 < ql → q k = nI 32 → q (k + 1) ≠ nI 32
theorem okX.T16 {T mo od ql : Nat} {q : Nat → Int32} {ln : Nat → Nat} {fl : Nat → Nat → Int32} (h : okX T mo od ql q ln fl) : T ≤ 16 := h.1
theorem okX.m4 {T mo od ql : Nat} {q : Nat → Int32} {ln : Nat → Nat} {fl : Nat → Nat → Int32} (h : okX T mo od ql q ln fl) : mo < 4 := h.2.1
theorem okX.o3 {T mo od ql : Nat} {q : Nat → Int32} {ln : Nat → Nat} {fl : Nat → Nat → Int32} (h : okX T mo od ql q ln fl) : od < 3 := h.2.2.1
theorem okX.q24 {T mo od ql : Nat} {q : Nat → Int32} {ln : Nat → Nat} {fl : Nat → Nat → Int32} (h : okX T mo od ql q ln fl) : ql ≤ 24 := h.2.2.2.1
theorem okX.V {T mo od ql : Nat} {q : Nat → Int32} {ln : Nat → Nat} {fl : Nat → Nat → Int32} (h : okX T mo od ql q ln fl) : ∀ t, t < T → TV (ln t) (fl t) := h.2.2.2.2.1
theorem okX.D {T mo od ql : Nat} {q : Nat → Int32} {ln : Nat → Nat} {fl : Nat → Nat → Int32} (h : okX T mo od ql q ln fl) : ∀ t u, t < T → u < T → t ≠ u → eqT (fl t) (fl u) (ln t) (ln u) = false := h.2.2.2.2.2.1
theorem okX.Q {T mo od ql : Nat} {q : Nat → Int32} {ln : Nat → Nat} {fl : Nat → Nat → Int32} (h : okX T mo od ql q ln fl) : ∀ k, k + 1 < ql → q k = nI 32 → q (k + 1) ≠ nI 32 := h.2.2.2.2.2.2
def wiB (v lo hi : Int32) : Bool := decide (¬ v < lo ∧ ¬ hi < v)
theorem wiB_isL {c : Int32} : (wiB c (nI 97) (nI 122) || wiB c (nI 48) (nI 57)) = isL c := by
  unfold wiB isL isD
  congr 1
  exact decide_eq_decide.mpr (and_congr Iff.rfl i32_le.symm)
theorem wsB_ns {f : Nat → Int32} {n k : Nat} (hv : TV n f) (hk : k < n) (h : f k = nI 32) : wsB f k = false := by
  unfold wsB
  refine decide_eq_false (fun q => ?_)
  rcases q with rfl | q
  · exact hv.2.2.1 h
  · by_cases e : k = 0
    · subst e; exact hv.2.2.1 h
    · exact hv.2.2.2.2.1 (k - 1) (by omega) q (by rw [show k - 1 + 1 = k by omega]; exact h)
/-- a piece may start at a word's beginning alone -/
theorem spB_2 {n m : Nat} {f : Nat → Int32} {k : Nat} (hk : k < n) : spB 2 n m f k = wsB f k := by
  unfold spB wsB
  simp [hk]
theorem spB_0 {n m : Nat} {f : Nat → Int32} {k : Nat} (hk : k < n) : spB 0 n m f k = decide (f k ≠ nI 32) := by
  unfold spB
  simp [hk]
theorem spB_1 {n m : Nat} {f : Nat → Int32} {k : Nat} (hk : k < n) : spB 1 n m f k = decide (k = 0) := by
  unfold spB
  simp [hk]
theorem spB_3 {n m : Nat} {f : Nat → Int32} {k : Nat} (hk : k < m) : spB 3 n m f k = true := by
  unfold spB
  simp [hk]
/-- what pieces are cut from, in the reference -/
def srO (so sn : Nat → Int32) (T mo : Nat) (ln : Nat → Nat) (fl : Nat → Nat → Int32) : Prop := ∀ t, t < T → sn t = nI (srN mo (ln t) (fl t)) ∧ ∀ k, k < srN mo (ln t) (fl t) → so (24 * t + k) = srG mo (ln t) (fl t) k
theorem srN_le {mo n : Nat} {f : Nat → Int32} (hv : TV n f) : srN mo n f ≤ n := by
  have := hv.cn
  unfold srN rN
  split <;> omega
theorem srN_3 {n : Nat} {f : Nat → Int32} (hv : TV n f) : srN 3 n f = wsN f n := by
  unfold srN rN
  rw [if_pos rfl, hv.im]
theorem srN_o {mo n : Nat} {f : Nat → Int32} (h : ¬ mo = 3) : srN mo n f = n := by
  unfold srN rN
  rw [if_neg h]
theorem srG_o {mo n : Nat} {f : Nat → Int32} (h : ¬ mo = 3) : srG mo n f = f := by
  unfold srG rG
  rw [if_neg h]
theorem srG_3 {n : Nat} {f : Nat → Int32} : srG 3 n f = iniF f n := by
  unfold srG rG
  rw [if_pos rfl]
theorem pcB_iff {mo n : Nat} {f : Nat → Int32} {s l : Nat} (hl : 0 < l) (h : s + l ≤ srN mo n f) : pcB mo n f s l = (spB mo n (1 + cnB f n) f s && decide (srG mo n f (s + l - 1) ≠ nI 32)) := by
  unfold pcB
  congr 1
  exact decide_eq_decide.mpr ⟨fun q => q.2.2, fun q => ⟨hl, h, q⟩⟩
theorem pcB_no {mo n : Nat} {f : Nat → Int32} {s l : Nat} (h : ¬ s + l ≤ srN mo n f) : pcB mo n f s l = false := by
  unfold pcB
  rw [decide_eq_false (fun q => h q.2.1), Bool.and_false]
/-- where what is asked for is in a title -/
def ppO (mo al : Nat) (a : Nat → Int32) (n : Nat) (f : Nat → Int32) : Option Nat := if al = 0 then some 0 else plc mo n (1 + cnB f n) f (iniF f n) a al
theorem plc_pcB {mo n : Nat} {f a : Nat → Int32} {al : Nat} (h0 : 0 < al) (ha : a (al - 1) ≠ nI 32) : plc mo n (1 + cnB f n) f (iniF f n) a al = fnd (fun s => pcB mo n f s al && mtB a (srG mo n f) al s) 0 (srN mo n f + 1 - al) := by
  unfold plc
  refine fnd_cong _ _ (fun s _ hs => ?_)
  have hle : s + al ≤ srN mo n f := by unfold srN; omega
  show (spB mo n (1 + cnB f n) f s && mtB a (srG mo n f) al s) = _
  rw [pcB_iff h0 hle]
  cases hm : mtB a (srG mo n f) al s with
  | false => simp
  | true =>
    have : srG mo n f (s + al - 1) ≠ nI 32 := by
      unfold mtB at hm
      have := (of_decide_eq_true hm) (al - 1) (by omega)
      rw [show s + al - 1 = s + (al - 1) by omega, ← this]
      exact ha
    simp [this]
theorem ppO_lt {mo al n : Nat} {a f : Nat → Int32} (hn : n ≤ 24) : ∀ j, ppO mo al a n f = some j → j < 26 := by
  intro j h
  unfold ppO at h
  split at h
  · cases h; omega
  · have h1 := plc_lt h
    have h2 := cnB_le (f := f) n
    unfold rN at h1
    split at h1 <;> omega
theorem mtB_step {a r : Nat → Int32} {k s : Nat} : mtB a r (k + 1) s = (mtB a r k s && decide (r (s + k) = a k)) := by
  unfold mtB
  rw [← Bool.decide_and]
  refine decide_eq_decide.mpr ⟨fun h => ⟨fun x hx => h x (by omega), (h k (by omega)).symm⟩, fun h x hx => ?_⟩
  by_cases e : x = k
  · rw [e]; exact h.2.symm
  · exact h.1 x (by omega)
/-- by name, one of two different titles is ahead -/
theorem nb_all {f g : Nat → Int32} {n m : Nat} : ∀ (fu k : Nat), n - k ≤ fu → k ≤ n → (∀ x, x < k → f x = g x) → k ≤ m → nb f g n m k fu = true ∨ nb g f m n k fu = true ∨ eqT f g n m = true := by
  intro fu
  induction fu with
  | zero =>
    intro k h1 h2 h3 h4
    have hk : k = n := by omega
    subst hk
    by_cases e : k = m
    · refine Or.inr (Or.inr ?_)
      unfold eqT mtB
      simp only [Bool.and_eq_true, decide_eq_true_eq, Nat.zero_add]
      exact ⟨e, fun x hx => h3 x hx⟩
    · refine Or.inl (decide_eq_true (by omega))
  | succ fu ih =>
    intro k h1 h2 h3 h4
    by_cases e : k < n ∧ k < m
    · rw [nb, if_pos e, nb, if_pos (show k < m ∧ k < n from ⟨e.2, e.1⟩)]
      by_cases h : f k = g k
      · rw [if_pos h, if_pos (show g k = f k from h.symm)]
        refine ih (k + 1) (by omega) (by omega) (fun x hx => ?_) (by omega)
        by_cases e2 : x = k
        · rw [e2]; exact h
        · exact h3 x (by omega)
      · rw [if_neg h, if_neg (show ¬ g k = f k from fun q => h q.symm)]
        by_cases hl : f k < g k
        · exact Or.inl (decide_eq_true hl)
        · refine Or.inr (Or.inl (decide_eq_true ?_))
          have := i32_le.mpr hl
          rw [Int32.lt_iff_toInt_lt]
          rw [Int32.le_iff_toInt_le] at this
          have hne : (f k).toInt ≠ (g k).toInt := fun q => h (Int32.toInt_inj.mp q)
          omega
    · rw [nb, if_neg e, nb, if_neg (show ¬ (k < m ∧ k < n) from fun q => e ⟨q.2, q.1⟩)]
      by_cases e1 : n < m
      · exact Or.inl (decide_eq_true e1)
      · by_cases e2 : m < n
        · exact Or.inr (Or.inl (decide_eq_true e2))
        · refine Or.inr (Or.inr ?_)
          have : n = m := by omega
          unfold eqT mtB
          simp only [Bool.and_eq_true, decide_eq_true_eq, Nat.zero_add]
          exact ⟨this, fun x hx => h3 x (by omega)⟩
theorem nb_asym {f g : Nat → Int32} {n m : Nat} : ∀ (fu fv k : Nat), n - k ≤ fu → m - k ≤ fv → k ≤ n → k ≤ m → nb f g n m k fu = true → nb g f m n k fv = false := by
  intro fu
  induction fu with
  | zero =>
    intro fv k h1 h2 h3 h4 h
    have hk : k = n := by omega
    have hlt : n < m := of_decide_eq_true h
    rw [nb_stop (by omega)]
    exact decide_eq_false (by omega)
  | succ fu ih =>
    intro fv k h1 h2 h3 h4 h
    by_cases e : k < n ∧ k < m
    · cases fv with
      | zero => omega
      | succ fv =>
        rw [nb, if_pos e] at h
        rw [nb, if_pos (show k < m ∧ k < n from ⟨e.2, e.1⟩)]
        by_cases hq : f k = g k
        · rw [if_pos hq] at h
          rw [if_pos hq.symm]
          exact ih fv (k + 1) (by omega) (by omega) (by omega) (by omega) h
        · rw [if_neg hq] at h
          rw [if_neg (show ¬ g k = f k from fun q => hq q.symm)]
          have h := of_decide_eq_true h
          refine decide_eq_false (fun q => ?_)
          rw [Int32.lt_iff_toInt_lt] at h q
          omega
    · rw [nb, if_neg e] at h
      have h := of_decide_eq_true h
      rw [nb_stop (by omega)]
      exact decide_eq_false (by omega)
theorem nb_fu {f g : Nat → Int32} {n m : Nat} : ∀ (fu fv k : Nat), n - k ≤ fu → n - k ≤ fv → nb f g n m k fu = nb f g n m k fv := by
  intro fu
  induction fu with
  | zero => intro fv k h1 h2; rw [nb_stop (by omega), nb_stop (by omega)]
  | succ fu ih =>
    intro fv k h1 h2
    by_cases e : k < n ∧ k < m
    · cases fv with
      | zero => omega
      | succ fv =>
        rw [nb, if_pos e, nb, if_pos e, ih fv (k + 1) (by omega) (by omega)]
    · rw [nb_stop (by omega), nb_stop (by omega)]
/-- of two different titles just one comes before the other -/
theorem cb_flip {T mo od ql i pi j pj : Nat} {q : Nat → Int32} {ln : Nat → Nat} {fl : Nat → Nat → Int32} {us : Nat → Int32} (hok : okX T mo od ql q ln fl) (hi : i < T) (hj : j < T) (hne : i ≠ j) : cbB od i pi j pj ln fl us = !(cbB od j pj i pi ln fl us) := by
  unfold cbB
  by_cases h2 : od = 2
  · rw [if_pos h2, if_pos h2]
    have hd := hok.D i j hi hj hne
    have hA := nb_all (f := fl i) (g := fl j) (n := ln i) (m := ln j) (max (ln i) (ln j)) 0 (by omega) (Nat.zero_le _) (fun x hx => by omega) (Nat.zero_le _)
    rw [nb_fu (max (ln i) (ln j)) (ln i) 0 (by omega) (by omega), nb_fu (f := fl j) (max (ln i) (ln j)) (ln j) 0 (by omega) (by omega)] at hA
    rcases hA with h | h | h
    · rw [h, nb_asym (ln i) (ln j) 0 (by omega) (by omega) (by omega) (by omega) h]; rfl
    · rw [h, nb_asym (ln j) (ln i) 0 (by omega) (by omega) (by omega) (by omega) h]; rfl
    · rw [h] at hd; cases hd
  · rw [if_neg h2, if_neg h2]
    by_cases h1 : od = 1 ∧ us i ≠ us j
    · rw [if_pos h1, if_pos (show od = 1 ∧ us j ≠ us i from ⟨h1.1, fun e => h1.2 e.symm⟩)]
      have hne : (us i).toInt ≠ (us j).toInt := fun q => h1.2 (Int32.toInt_inj.mp q)
      by_cases hl : us j < us i
      · have : ¬ us i < us j := by rw [Int32.lt_iff_toInt_lt] at hl ⊢; omega
        rw [decide_eq_true hl, decide_eq_false this]; rfl
      · have : us i < us j := by rw [Int32.lt_iff_toInt_lt] at hl ⊢; omega
        rw [decide_eq_false hl, decide_eq_true this]; rfl
    · rw [if_neg h1, if_neg (show ¬ (od = 1 ∧ us j ≠ us i) from fun q => h1 ⟨q.1, fun e => q.2 e.symm⟩)]
      by_cases hp : pi ≠ pj
      · rw [if_pos hp, if_pos (show pj ≠ pi from fun e => hp e.symm)]
        by_cases hl : pi < pj
        · rw [decide_eq_true hl, decide_eq_false (by omega)]; rfl
        · rw [decide_eq_false hl, decide_eq_true (by omega)]; rfl
      · rw [if_neg hp, if_neg (show ¬ pj ≠ pi from fun q => hp (fun e => q e.symm))]
        by_cases hl : ln i ≠ ln j
        · rw [if_pos hl, if_pos (show ln j ≠ ln i from fun e => hl e.symm)]
          by_cases hl2 : ln i < ln j
          · rw [decide_eq_true hl2, decide_eq_false (by omega)]; rfl
          · rw [decide_eq_false hl2, decide_eq_true (by omega)]; rfl
        · rw [if_neg hl, if_neg (show ¬ ln j ≠ ln i from fun q => hl (fun e => q e.symm))]
          by_cases hl2 : i < j
          · rw [decide_eq_true hl2, decide_eq_false (by omega)]; rfl
          · rw [decide_eq_false hl2, decide_eq_true (by omega)]; rfl
theorem plc_26 {mo n : Nat} {f a : Nat → Int32} {al : Nat} (hv : TV n f) : ∀ j, plc mo n (1 + cnB f n) f (iniF f n) a al = some j → j < 26 := by
  intro j h
  have h1 := plc_lt h
  have h2 := hv.sr (mo := mo)
  unfold srN at h2
  omega
theorem pKb_big {T mo t s l : Nat} {ln : Nat → Nat} {fl : Nat → Nat → Int32} (h : ¬ (0 < l ∧ s + l ≤ srN mo (ln t) (fl t))) : pKb T mo ln fl t s l = false := by
  cases e : pKb T mo ln fl t s l with
  | false => rfl
  | true => exact absurd (pcB_of (pKb_c e)) h
theorem pSb_big {T mo od t s l : Nat} {ln : Nat → Nat} {fl : Nat → Nat → Int32} {us : Nat → Int32} (h : ¬ (0 < l ∧ s + l ≤ srN mo (ln t) (fl t))) : pSb T mo od ln fl us t s l = false := by
  cases e : pSb T mo od ln fl us t s l with
  | false => rfl
  | true => exact absurd (pcB_of (pSb_c e)) h
theorem hd_mono {T mo t : Nat} {ln : Nat → Nat} {fl : Nat → Nat → Int32} {x : Nat × Option Nat} (h : match x.2 with | none => x.1 = 0 | some j => j < t ∧ x.1 = (kyN T mo ln fl j).2 ∧ 0 < (kyN T mo ln fl j).2) : match x.2 with | none => x.1 = 0 | some j => j < t + 1 ∧ x.1 = (kyN T mo ln fl j).2 ∧ 0 < (kyN T mo ln fl j).2 := by
  cases e : x.2 with
  | none => rw [e] at h; exact h
  | some j => rw [e] at h; exact ⟨Nat.lt_succ_of_lt h.1, h.2⟩
/-! the reference's words for what it finds -/
def cnM (mo : Nat) (f : Nat → Int32) (k : Nat) : Nat := if mo = 3 then wsN f k else k
theorem wsN_le {f : Nat → Int32} : ∀ k, wsN f k ≤ k
  | 0 => Nat.le_refl _
  | k + 1 => by have := wsN_le (f := f) k; rw [wsN]; split <;> omega
theorem cnM_le {mo : Nat} {f : Nat → Int32} {k : Nat} : cnM mo f k ≤ k := by
  unfold cnM
  split
  · exact wsN_le k
  · exact Nat.le_refl _
theorem cnM_y {mo : Nat} {f : Nat → Int32} {k : Nat} (h : mo = 3 → wsB f k = true) : cnM mo f (k + 1) = cnM mo f k + 1 := by
  unfold cnM
  by_cases e : mo = 3
  · rw [if_pos e, if_pos e, wsN, if_pos (h e)]
  · rw [if_neg e, if_neg e]
theorem cnM_n {mo : Nat} {f : Nat → Int32} {k : Nat} (e : mo = 3) (h : wsB f k = false) : cnM mo f (k + 1) = cnM mo f k := by
  unfold cnM
  rw [if_pos e, if_pos e, wsN, if_neg (by rw [h]; decide)]
  rfl
theorem cnM_end {mo n : Nat} {f : Nat → Int32} (hv : TV n f) : cnM mo f n = srN mo n f := by
  unfold cnM
  by_cases e : mo = 3
  · rw [if_pos e, e, srN_3 hv]
  · rw [if_neg e, srN_o e]
theorem srG_at {mo n : Nat} {f : Nat → Int32} {k : Nat} (hk : k < n) (h : mo = 3 → wsB f k = true) : srG mo n f (cnM mo f k) = f k := by
  unfold cnM
  by_cases e : mo = 3
  · rw [if_pos e, e, srG_3]
    exact iniF_at hk (h e)
  · rw [if_neg e, srG_o e]
/-- what is found: its start, its length -/
def fdS (k : Nat × Nat) : Int32 := if 0 < k.2 then nI k.1 else -6
def fdL (k : Nat × Nat) : Int32 := if 0 < k.2 then nI k.2 else -6
theorem qc_cases {ql : Nat} {q : Nat → Int32} : (ql = 0 ∧ qcN ql q = 0) ∨ (0 < ql ∧ q (ql - 1) = nI 32 ∧ qcN ql q = ql - 1) ∨ (0 < ql ∧ q (ql - 1) ≠ nI 32 ∧ qcN ql q = ql) := by
  by_cases h : qeB ql q = true
  · have h1 : qcN ql q = ql := by unfold qcN; rw [if_pos h]
    unfold qeB at h
    have h := of_decide_eq_true h
    exact Or.inr (Or.inr ⟨h.1, h.2, h1⟩)
  · have h1 : qcN ql q = ql - 1 := by unfold qcN; rw [if_neg h]
    have h : ¬ (0 < ql ∧ q (ql - 1) ≠ nI 32) := fun w => h (decide_eq_true w)
    by_cases e : ql = 0
    · exact Or.inl ⟨e, by omega⟩
    · refine Or.inr (Or.inl ⟨by omega, ?_, h1⟩)
      by_cases e2 : q (ql - 1) = nI 32
      · exact e2
      · exact absurd ⟨by omega, e2⟩ h
/-- what counts of the query doesn't end with a blank -/
theorem qc_last {T mo od ql : Nat} {q : Nat → Int32} {ln : Nat → Nat} {fl : Nat → Nat → Int32} (hok : okX T mo od ql q ln fl) (h0 : 0 < qcN ql q) : q (qcN ql q - 1) ≠ nI 32 := by
  rcases qc_cases (ql := ql) (q := q) with ⟨h1, h2⟩ | ⟨h1, h2, h3⟩ | ⟨h1, h2, h3⟩
  · omega
  · intro e
    have := hok.Q (qcN ql q - 1) (by omega) e
    rw [show qcN ql q - 1 + 1 = ql - 1 by omega] at this
    exact this h2
  · rw [h3]; exact h2
theorem ppO_pm {mo ql n : Nat} {q f : Nat → Int32} : ppO mo (qcN ql q) q n f = pmO mo ql q n f := rfl
/-- the others don't have it -/
def alP (mo : Nat) (ln : Nat → Nat) (fl : Nat → Nat → Int32) (t : Nat) (a : Nat → Int32) (al i : Nat) : Bool := decide (∀ u, u < i → u ≠ t → plc mo (ln u) (1 + cnB (fl u) (ln u)) (fl u) (iniF (fl u) (ln u)) a al = none)
theorem alP_step {mo : Nat} {ln : Nat → Nat} {fl : Nat → Nat → Int32} {t : Nat} {a : Nat → Int32} {al i : Nat} : alP mo ln fl t a al (i + 1) = (alP mo ln fl t a al i && (decide (i = t) || decide (plc mo (ln i) (1 + cnB (fl i) (ln i)) (fl i) (iniF (fl i) (ln i)) a al = none))) := by
  unfold alP
  rw [← Bool.decide_or, ← Bool.decide_and]
  refine decide_eq_decide.mpr ⟨fun h => ⟨fun u hu hn => h u (by omega) hn, ?_⟩, fun h u hu hn => ?_⟩
  · by_cases e : i = t
    · exact Or.inl e
    · exact Or.inr (h i (by omega) e)
  · by_cases e : u = i
    · subst e
      exact h.2.resolve_left hn
    · exact h.1 u (by omega) hn
theorem alP_no {mo : Nat} {ln : Nat → Nat} {fl : Nat → Nat → Int32} {t : Nat} {a : Nat → Int32} {al i j : Nat} (h : alP mo ln fl t a al i = false) (hij : i ≤ j) : alP mo ln fl t a al j = false := by
  unfold alP at h ⊢
  exact decide_eq_false (fun g => (of_decide_eq_false h) (fun u hu hn => g u (by omega) hn))
/-- it is ahead of the others that have it -/
def fiP (mo od : Nat) (ln : Nat → Nat) (fl : Nat → Nat → Int32) (us : Nat → Int32) (t pt : Nat) (a : Nat → Int32) (al i : Nat) : Bool := decide (∀ u, u < i → u ≠ t → ∀ p, plc mo (ln u) (1 + cnB (fl u) (ln u)) (fl u) (iniF (fl u) (ln u)) a al = some p → cbB od t pt u p ln fl us = true)
theorem fiP_skip {mo od : Nat} {ln : Nat → Nat} {fl : Nat → Nat → Int32} {us : Nat → Int32} {t pt : Nat} {a : Nat → Int32} {al i : Nat} (h : i = t ∨ plc mo (ln i) (1 + cnB (fl i) (ln i)) (fl i) (iniF (fl i) (ln i)) a al = none) : fiP mo od ln fl us t pt a al (i + 1) = fiP mo od ln fl us t pt a al i := by
  unfold fiP
  refine decide_eq_decide.mpr ⟨fun g u hu => g u (by omega), fun g u hu hn p hp => ?_⟩
  by_cases e : u = i
  · subst e
    rcases h with h | h
    · exact absurd h hn
    · rw [h] at hp; cases hp
  · exact g u (by omega) hn p hp
theorem fiP_one {mo od : Nat} {ln : Nat → Nat} {fl : Nat → Nat → Int32} {us : Nat → Int32} {t pt : Nat} {a : Nat → Int32} {al i p : Nat} (hn : i ≠ t) (h : plc mo (ln i) (1 + cnB (fl i) (ln i)) (fl i) (iniF (fl i) (ln i)) a al = some p) : fiP mo od ln fl us t pt a al (i + 1) = (fiP mo od ln fl us t pt a al i && cbB od t pt i p ln fl us) := by
  unfold fiP
  rw [← Bool.decide_eq_true (b := cbB od t pt i p ln fl us), ← Bool.decide_and]
  refine decide_eq_decide.mpr ⟨fun g => ⟨fun u hu => g u (by omega), by simpa using g i (by omega) hn p h⟩, fun g u hu hn p' hp => ?_⟩
  by_cases e : u = i
  · subst e
    rw [h] at hp
    cases hp
    simpa using g.2
  · exact g.1 u (by omega) hn p' hp
theorem fiP_no {mo od : Nat} {ln : Nat → Nat} {fl : Nat → Nat → Int32} {us : Nat → Int32} {t pt : Nat} {a : Nat → Int32} {al i j : Nat} (h : fiP mo od ln fl us t pt a al i = false) (hij : i ≤ j) : fiP mo od ln fl us t pt a al j = false := by
  unfold fiP at h ⊢
  exact decide_eq_false (fun g => (of_decide_eq_false h) (fun u hu hn => g u (by omega) hn))
theorem alP_alo {T mo : Nat} {ln : Nat → Nat} {fl : Nat → Nat → Int32} {t s l : Nat} : alP mo ln fl t (fun k => srG mo (ln t) (fl t) (s + k)) l T = aloB T mo ln fl t s l := rfl
theorem fiP_fir {T mo od ql : Nat} {q : Nat → Int32} {ln : Nat → Nat} {fl : Nat → Nat → Int32} {us : Nat → Int32} {t s l pt : Nat} (hok : okX T mo od ql q ln fl) (ht : t < T) (hp : pl2 mo ln fl t s l t = some pt) : fiP mo od ln fl us t pt (fun k => srG mo (ln t) (fl t) (s + k)) l T = firB T mo od ln fl us t s l := by
  unfold fiP firB
  refine decide_eq_decide.mpr ⟨fun h u hu hn p h2 => ?_, fun h u hu hn p h2 => ?_⟩
  · rw [hp]
    have := h u hu hn p h2
    rw [cb_flip hok ht hu (fun e => hn e.symm)] at this
    simpa using this
  · have := h u hu hn p h2
    rw [hp] at this
    rw [cb_flip hok ht hu (fun e => hn e.symm)]
    simpa using this
/-- found: the shortest, and of these the first -/
theorem bst_hit {P : Nat → Nat → Bool} {s l : Nat} (h0 : 0 < l) (hp : P s l = true) (h1 : ∀ s' l', 0 < l' → l' < l → P s' l' = false) (h2 : ∀ s', s' < s → P s' l = false) (hb : ∀ s l, P s l = true → s < 25 ∧ 0 < l ∧ l ≤ 24) : bst P = (s, l) := by
  refine bst_of (Or.inr ⟨h0, trivial, hp, fun s' l' _ hl' hp' => ?_⟩) hb
  by_cases e : l' < l
  · have := h1 s' l' hl' e
    rw [show P s' l' = true from hp'] at this
    cases this
  · by_cases e2 : l < l'
    · exact Or.inl e2
    · have e3 : l' = l := by omega
      subst e3
      refine Or.inr ⟨rfl, ?_⟩
      by_cases e4 : s' < s
      · have := h2 s' e4
        rw [show P s' l' = true from hp'] at this
        cases this
      · omega
theorem bst_miss {P : Nat → Nat → Bool} (h1 : ∀ s l, P s l = false) (hb : ∀ s l, P s l = true → s < 25 ∧ 0 < l ∧ l ≤ 24) : bst P = (0, 0) := by
  refine bst_of (Or.inl ⟨rfl, rfl, fun s' l' _ _ hp' => ?_⟩) hb
  have := h1 s' l'
  rw [show P s' l' = true from hp'] at this
  cases this
theorem fd_hit {P : Nat → Nat → Bool} {s l : Nat} (h0 : 0 < l) (h : bst P = (s, l)) : fdS (bst P) = nI s ∧ fdL (bst P) = nI l := by
  rw [h]
  exact ⟨if_pos h0, if_pos h0⟩
theorem fd_miss {P : Nat → Nat → Bool} (h : bst P = (0, 0)) : fdS (bst P) = -6 ∧ fdL (bst P) = -6 := by
  rw [h]
  exact ⟨rfl, rfl⟩
theorem fdL_n {k : Nat × Nat} (h : k.2 < 1000) : fdL k = -6 ↔ ¬ 0 < k.2 := by
  unfold fdL
  by_cases e : 0 < k.2
  · rw [if_pos e]
    refine ⟨fun w => ?_, fun w => absurd e w⟩
    have h1 : (nI k.2).toInt = (-6 : Int32).toInt := congrArg Int32.toInt w
    rw [nI_toInt (by omega)] at h1
    exact absurd h1 (by have : (-6 : Int32).toInt = -6 := by decide
                        omega)
  · rw [if_neg e]
    exact ⟨fun _ => e, fun _ => rfl⟩
theorem bst_lt {P : Nat → Nat → Bool} : (bst P).1 < 25 ∧ (bst P).2 < 25 := by
  unfold bst
  split
  · exact ⟨by decide, by decide⟩
  · rename_i l hl
    have := (fnd_some _ _ _).mp hl
    refine ⟨?_, by show l < 25; omega⟩
    show (fnd (fun s => P s l) 0 25).getD 0 < 25
    cases e : fnd (fun s => P s l) 0 25 with
    | none => decide
    | some s => have := (fnd_some _ _ _).mp e; show s < 25; omega
