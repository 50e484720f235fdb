/-! THE REFERENCE: its cells -/
/-- the fields of the reference -/
abbrev nL (sa ha c xa tl ra la qa al ka rm pa : Nat) (fs fe : Int32) (za wa ua ap : Nat) (cm : Int32) (nu be en : Nat) : List Value := [.ref sa, .ref ha, .int (nI c), .ref xa, .int (nI tl), .ref ra, .ref la, .ref qa, .int (nI al), .ref ka, .int (nI rm), .ref pa, .int fs, .int fe, .ref za, .ref wa, .ref ua, .int (nI ap), .int cm, .int (nI nu), .int (nI be), .int (nI en)]
/-- the state's row -/
def SR (S : Nat → Int32) (T mo od ql : Nat) (q : Nat → Int32) (ln : Nat → Nat) (fl : Nat → Nat → Int32) (us : Nat → Int32) : Prop := S 0 = nI T ∧ S 1 = nI mo ∧ S 2 = nI od ∧ S 3 = nI ql ∧ (∀ k, k < ql → S (4 + k) = q k) ∧ ∀ t, t < T → S (28 + 26 * t) = nI (ln t) ∧ S (29 + 26 * t) = us t ∧ ∀ k, k < ln t → S (30 + 26 * t + k) = fl t k
/-- what holds of a state -/
def okX (T mo od ql : Nat) (q : Nat → Int32) (ln : Nat → Nat) (fl : Nat → Nat → Int32) : Prop := T ≤ 16 ∧ mo < 4 ∧ od < 3 ∧ ql ≤ 24 ∧ (∀ t, t < T → TV (ln t) (fl t)) ∧ (∀ t u, t < T → u < T → t ≠ u → eqT (fl t) (fl u) (ln t) (ln u) = false) ∧ ∀ k, k + 1 < ql → q k = nI 32 → q (k + 1) ≠ nI 32
theorem okX.T16 {T mo od ql : Nat} {q : Nat → Int32} {ln : Nat → Nat} {fl : Nat → Nat → Int32} (h : okX T mo od ql q ln fl) : T ≤ 16 := h.1
theorem okX.m4 {T mo od ql : Nat} {q : Nat → Int32} {ln : Nat → Nat} {fl : Nat → Nat → Int32} (h : okX T mo od ql q ln fl) : mo < 4 := h.2.1
theorem okX.o3 {T mo od ql : Nat} {q : Nat → Int32} {ln : Nat → Nat} {fl : Nat → Nat → Int32} (h : okX T mo od ql q ln fl) : od < 3 := h.2.2.1
theorem okX.q24 {T mo od ql : Nat} {q : Nat → Int32} {ln : Nat → Nat} {fl : Nat → Nat → Int32} (h : okX T mo od ql q ln fl) : ql ≤ 24 := h.2.2.2.1
theorem okX.V {T mo od ql : Nat} {q : Nat → Int32} {ln : Nat → Nat} {fl : Nat → Nat → Int32} (h : okX T mo od ql q ln fl) : ∀ t, t < T → TV (ln t) (fl t) := h.2.2.2.2.1
theorem okX.D {T mo od ql : Nat} {q : Nat → Int32} {ln : Nat → Nat} {fl : Nat → Nat → Int32} (h : okX T mo od ql q ln fl) : ∀ t u, t < T → u < T → t ≠ u → eqT (fl t) (fl u) (ln t) (ln u) = false := h.2.2.2.2.2.1
theorem okX.Q {T mo od ql : Nat} {q : Nat → Int32} {ln : Nat → Nat} {fl : Nat → Nat → Int32} (h : okX T mo od ql q ln fl) : ∀ k, k + 1 < ql → q k = nI 32 → q (k + 1) ≠ nI 32 := h.2.2.2.2.2.2
def wiB (v lo hi : Int32) : Bool := decide (¬ v < lo ∧ ¬ hi < v)
theorem wiB_isL {c : Int32} : (wiB c (nI 97) (nI 122) || wiB c (nI 48) (nI 57)) = isL c := by
  unfold wiB isL isD
  congr 1
  exact decide_eq_decide.mpr (and_congr Iff.rfl i32_le.symm)
theorem wsB_ns {f : Nat → Int32} {n k : Nat} (hv : TV n f) (hk : k < n) (h : f k = nI 32) : wsB f k = false := by
  unfold wsB
  refine decide_eq_false (fun q => ?_)
  rcases q with rfl | q
  · exact hv.2.2.1 h
  · by_cases e : k = 0
    · subst e; exact hv.2.2.1 h
    · exact hv.2.2.2.2.1 (k - 1) (by omega) q (by rw [show k - 1 + 1 = k by omega]; exact h)
/-- a piece may start at a word's beginning alone -/
theorem spB_2 {n m : Nat} {f : Nat → Int32} {k : Nat} (hk : k < n) : spB 2 n m f k = wsB f k := by
  unfold spB wsB
  simp [hk]
theorem spB_0 {n m : Nat} {f : Nat → Int32} {k : Nat} (hk : k < n) : spB 0 n m f k = decide (f k ≠ nI 32) := by
  unfold spB
  simp [hk]
theorem spB_1 {n m : Nat} {f : Nat → Int32} {k : Nat} (hk : k < n) : spB 1 n m f k = decide (k = 0) := by
  unfold spB
  simp [hk]
theorem spB_3 {n m : Nat} {f : Nat → Int32} {k : Nat} (hk : k < m) : spB 3 n m f k = true := by
  unfold spB
  simp [hk]
/-- what pieces are cut from, in the reference -/
def srO (so sn : Nat → Int32) (T mo : Nat) (ln : Nat → Nat) (fl : Nat → Nat → Int32) : Prop := ∀ t, t < T → sn t = nI (srN mo (ln t) (fl t)) ∧ ∀ k, k < srN mo (ln t) (fl t) → so (24 * t + k) = srG mo (ln t) (fl t) k
theorem srN_le {mo n : Nat} {f : Nat → Int32} (hv : TV n f) : srN mo n f ≤ n := by
  have := hv.cn
  unfold srN rN
  split <;> omega
theorem srN_3 {n : Nat} {f : Nat → Int32} (hv : TV n f) : srN 3 n f = wsN f n := by
  unfold srN rN
  rw [if_pos rfl, hv.im]
theorem srN_o {mo n : Nat} {f : Nat → Int32} (h : ¬ mo = 3) : srN mo n f = n := by
  unfold srN rN
  rw [if_neg h]
theorem srG_o {mo n : Nat} {f : Nat → Int32} (h : ¬ mo = 3) : srG mo n f = f := by
  unfold srG rG
  rw [if_neg h]
theorem srG_3 {n : Nat} {f : Nat → Int32} : srG 3 n f = iniF f n := by
  unfold srG rG
  rw [if_pos rfl]
theorem pcB_iff {mo n : Nat} {f : Nat → Int32} {s l : Nat} (hl : 0 < l) (h : s + l ≤ srN mo n f) : pcB mo n f s l = (spB mo n (1 + cnB f n) f s && decide (srG mo n f (s + l - 1) ≠ nI 32)) := by
  unfold pcB
  congr 1
  exact decide_eq_decide.mpr ⟨fun q => q.2.2, fun q => ⟨hl, h, q⟩⟩
theorem pcB_no {mo n : Nat} {f : Nat → Int32} {s l : Nat} (h : ¬ s + l ≤ srN mo n f) : pcB mo n f s l = false := by
  unfold pcB
  rw [decide_eq_false (fun q => h q.2.1), Bool.and_false]
/-- where what is asked for is in a title -/
def ppO (mo al : Nat) (a : Nat → Int32) (n : Nat) (f : Nat → Int32) : Option Nat := if al = 0 then some 0 else plc mo n (1 + cnB f n) f (iniF f n) a al
theorem plc_pcB {mo n : Nat} {f a : Nat → Int32} {al : Nat} (h0 : 0 < al) (ha : a (al - 1) ≠ nI 32) : plc mo n (1 + cnB f n) f (iniF f n) a al = fnd (fun s => pcB mo n f s al && mtB a (srG mo n f) al s) 0 (srN mo n f + 1 - al) := by
  unfold plc
  refine fnd_cong _ _ (fun s _ hs => ?_)
  have hle : s + al ≤ srN mo n f := by unfold srN; omega
  show (spB mo n (1 + cnB f n) f s && mtB a (srG mo n f) al s) = _
  rw [pcB_iff h0 hle]
  cases hm : mtB a (srG mo n f) al s with
  | false => simp
  | true =>
    have : srG mo n f (s + al - 1) ≠ nI 32 := by
      unfold mtB at hm
      have := (of_decide_eq_true hm) (al - 1) (by omega)
      rw [show s + al - 1 = s + (al - 1) by omega, ← this]
      exact ha
    simp [this]
theorem ppO_lt {mo al n : Nat} {a f : Nat → Int32} (hn : n ≤ 24) : ∀ j, ppO mo al a n f = some j → j < 26 := by
  intro j h
  unfold ppO at h
  split at h
  · cases h; omega
  · have h1 := plc_lt h
    have h2 := cnB_le (f := f) n
    unfold rN at h1
    split at h1 <;> omega
theorem mtB_step {a r : Nat → Int32} {k s : Nat} : mtB a r (k + 1) s = (mtB a r k s && decide (r (s + k) = a k)) := by
  unfold mtB
  rw [← Bool.decide_and]
  refine decide_eq_decide.mpr ⟨fun h => ⟨fun x hx => h x (by omega), (h k (by omega)).symm⟩, fun h x hx => ?_⟩
  by_cases e : x = k
  · rw [e]; exact h.2.symm
  · exact h.1 x (by omega)
/-- by name, one of two different titles is ahead -/
theorem nb_all {f g : Nat → Int32} {n m : Nat} : ∀ (fu k : Nat), n - k ≤ fu → k ≤ n → (∀ x, x < k → f x = g x) → k ≤ m → nb f g n m k fu = true ∨ nb g f m n k fu = true ∨ eqT f g n m = true := by
  intro fu
  induction fu with
  | zero =>
    intro k h1 h2 h3 h4
    have hk : k = n := by omega
    subst hk
    by_cases e : k = m
    · refine Or.inr (Or.inr ?_)
      unfold eqT mtB
      simp only [Bool.and_eq_true, decide_eq_true_eq, Nat.zero_add]
      exact ⟨e, fun x hx => h3 x hx⟩
    · refine Or.inl (decide_eq_true (by omega))
  | succ fu ih =>
    intro k h1 h2 h3 h4
    by_cases e : k < n ∧ k < m
    · rw [nb, if_pos e, nb, if_pos (show k < m ∧ k < n from ⟨e.2, e.1⟩)]
      by_cases h : f k = g k
      · rw [if_pos h, if_pos (show g k = f k from h.symm)]
        refine ih (k + 1) (by omega) (by omega) (fun x hx => ?_) (by omega)
        by_cases e2 : x = k
        · rw [e2]; exact h
        · exact h3 x (by omega)
      · rw [if_neg h, if_neg (show ¬ g k = f k from fun q => h q.symm)]
        by_cases hl : f k < g k
        · exact Or.inl (decide_eq_true hl)
        · refine Or.inr (Or.inl (decide_eq_true ?_))
          have := i32_le.mpr hl
          rw [Int32.lt_iff_toInt_lt]
          rw [Int32.le_iff_toInt_le] at this
          have hne : (f k).toInt ≠ (g k).toInt := fun q => h (Int32.toInt_inj.mp q)
          omega
    · rw [nb, if_neg e, nb, if_neg (show ¬ (k < m ∧ k < n) from fun q => e ⟨q.2, q.1⟩)]
      by_cases e1 : n < m
      · exact Or.inl (decide_eq_true e1)
      · by_cases e2 : m < n
        · exact Or.inr (Or.inl (decide_eq_true e2))
        · refine Or.inr (Or.inr ?_)
          have : n = m := by omega
          unfold eqT mtB
          simp only [Bool.and_eq_true, decide_eq_true_eq, Nat.zero_add]
          exact ⟨this, fun x hx => h3 x (by omega)⟩
theorem nb_asym {f g : Nat → Int32} {n m : Nat} : ∀ (fu fv k : Nat), n - k ≤ fu → m - k ≤ fv → k ≤ n → k ≤ m → nb f g n m k fu = true → nb g f m n k fv = false := by
  intro fu
  induction fu with
  | zero =>
    intro fv k h1 h2 h3 h4 h
    have hk : k = n := by omega
    have hlt : n < m := of_decide_eq_true h
    rw [nb_stop (by omega)]
    exact decide_eq_false (by omega)
  | succ fu ih =>
    intro fv k h1 h2 h3 h4 h
    by_cases e : k < n ∧ k < m
    · cases fv with
      | zero => omega
      | succ fv =>
        rw [nb, if_pos e] at h
        rw [nb, if_pos (show k < m ∧ k < n from ⟨e.2, e.1⟩)]
        by_cases hq : f k = g k
        · rw [if_pos hq] at h
          rw [if_pos hq.symm]
          exact ih fv (k + 1) (by omega) (by omega) (by omega) (by omega) h
        · rw [if_neg hq] at h
          rw [if_neg (show ¬ g k = f k from fun q => hq q.symm)]
          have h := of_decide_eq_true h
          refine decide_eq_false (fun q => ?_)
          rw [Int32.lt_iff_toInt_lt] at h q
          omega
    · rw [nb, if_neg e] at h
      have h := of_decide_eq_true h
      rw [nb_stop (by omega)]
      exact decide_eq_false (by omega)
theorem nb_fu {f g : Nat → Int32} {n m : Nat} : ∀ (fu fv k : Nat), n - k ≤ fu → n - k ≤ fv → nb f g n m k fu = nb f g n m k fv := by
  intro fu
  induction fu with
  | zero => intro fv k h1 h2; rw [nb_stop (by omega), nb_stop (by omega)]
  | succ fu ih =>
    intro fv k h1 h2
    by_cases e : k < n ∧ k < m
    · cases fv with
      | zero => omega
      | succ fv =>
        rw [nb, if_pos e, nb, if_pos e, ih fv (k + 1) (by omega) (by omega)]
    · rw [nb_stop (by omega), nb_stop (by omega)]
/-- of two different titles just one comes before the other -/
theorem cb_flip {T mo od ql i pi j pj : Nat} {q : Nat → Int32} {ln : Nat → Nat} {fl : Nat → Nat → Int32} {us : Nat → Int32} (hok : okX T mo od ql q ln fl) (hi : i < T) (hj : j < T) (hne : i ≠ j) : cbB od i pi j pj ln fl us = !(cbB od j pj i pi ln fl us) := by
  unfold cbB
  by_cases h2 : od = 2
  · rw [if_pos h2, if_pos h2]
    have hd := hok.D i j hi hj hne
    have hA := nb_all (f := fl i) (g := fl j) (n := ln i) (m := ln j) (max (ln i) (ln j)) 0 (by omega) (Nat.zero_le _) (fun x hx => by omega) (Nat.zero_le _)
    rw [nb_fu (max (ln i) (ln j)) (ln i) 0 (by omega) (by omega), nb_fu (f := fl j) (max (ln i) (ln j)) (ln j) 0 (by omega) (by omega)] at hA
    rcases hA with h | h | h
    · rw [h, nb_asym (ln i) (ln j) 0 (by omega) (by omega) (by omega) (by omega) h]; rfl
    · rw [h, nb_asym (ln j) (ln i) 0 (by omega) (by omega) (by omega) (by omega) h]; rfl
    · rw [h] at hd; cases hd
  · rw [if_neg h2, if_neg h2]
    by_cases h1 : od = 1 ∧ us i ≠ us j
    · rw [if_pos h1, if_pos (show od = 1 ∧ us j ≠ us i from ⟨h1.1, fun e => h1.2 e.symm⟩)]
      have hne : (us i).toInt ≠ (us j).toInt := fun q => h1.2 (Int32.toInt_inj.mp q)
      by_cases hl : us j < us i
      · have : ¬ us i < us j := by rw [Int32.lt_iff_toInt_lt] at hl ⊢; omega
        rw [decide_eq_true hl, decide_eq_false this]; rfl
      · have : us i < us j := by rw [Int32.lt_iff_toInt_lt] at hl ⊢; omega
        rw [decide_eq_false hl, decide_eq_true this]; rfl
    · rw [if_neg h1, if_neg (show ¬ (od = 1 ∧ us j ≠ us i) from fun q => h1 ⟨q.1, fun e => q.2 e.symm⟩)]
      by_cases hp : pi ≠ pj
      · rw [if_pos hp, if_pos (show pj ≠ pi from fun e => hp e.symm)]
        by_cases hl : pi < pj
        · rw [decide_eq_true hl, decide_eq_false (by omega)]; rfl
        · rw [decide_eq_false hl, decide_eq_true (by omega)]; rfl
      · rw [if_neg hp, if_neg (show ¬ pj ≠ pi from fun q => hp (fun e => q e.symm))]
        by_cases hl : ln i ≠ ln j
        · rw [if_pos hl, if_pos (show ln j ≠ ln i from fun e => hl e.symm)]
          by_cases hl2 : ln i < ln j
          · rw [decide_eq_true hl2, decide_eq_false (by omega)]; rfl
          · rw [decide_eq_false hl2, decide_eq_true (by omega)]; rfl
        · rw [if_neg hl, if_neg (show ¬ ln j ≠ ln i from fun q => hl (fun e => q e.symm))]
          by_cases hl2 : i < j
          · rw [decide_eq_true hl2, decide_eq_false (by omega)]; rfl
          · rw [decide_eq_false hl2, decide_eq_true (by omega)]; rfl
theorem pl_t {p r a b t u : Nat} (h : (p ≠ r ∧ p < r) ∨ (p = r ∧ a ≠ b ∧ a < b) ∨ (p = r ∧ a = b ∧ t < u)) : (if p ≠ r then decide (p < r) else if a ≠ b then decide (a < b) else decide (t < u)) = true := by
  rcases h with ⟨h1, h2⟩ | ⟨h1, h2, h3⟩ | ⟨h1, h2, h3⟩
  · rw [if_pos h1]; exact decide_eq_true h2
  · rw [if_neg (fun w => w h1), if_pos h2]; exact decide_eq_true h3
  · rw [if_neg (fun w => w h1), if_neg (fun w => w h2)]; exact decide_eq_true h3
theorem pl_f {p r a b t u : Nat} (h : (p ≠ r ∧ ¬ p < r) ∨ (p = r ∧ a ≠ b ∧ ¬ a < b) ∨ (p = r ∧ a = b ∧ ¬ t < u)) : (if p ≠ r then decide (p < r) else if a ≠ b then decide (a < b) else decide (t < u)) = false := by
  rcases h with ⟨h1, h2⟩ | ⟨h1, h2, h3⟩ | ⟨h1, h2, h3⟩
  · rw [if_pos h1]; exact decide_eq_false h2
  · rw [if_neg (fun w => w h1), if_pos h2]; exact decide_eq_false h3
  · rw [if_neg (fun w => w h1), if_neg (fun w => w h2)]; exact decide_eq_false h3
theorem mtB_sub {a r : Nat → Int32} {k l s : Nat} (h : k ≤ l) (hf : mtB a r k s = false) : mtB a r l s = false := by
  unfold mtB at hf ⊢
  exact decide_eq_false (fun g => (of_decide_eq_false hf) (fun x hx => g x (by omega)))
theorem eqT_all {f g : Nat → Int32} {n m : Nat} (h : n = m) (hf : ∀ x, x < n → f x = g x) : eqT f g n m = true := by
  unfold eqT mtB
  simp only [Bool.and_eq_true, decide_eq_true_eq, Nat.zero_add]
  exact ⟨h, hf⟩
set_option maxRecDepth 100000 in
set_option maxHeartbeats 4000000 in
theorem n_within {G : mG} {M : mM} {v lo hi : Int32} : CC G iX7_within 0 0 [.int v, .int lo, .int hi] M (fun r M1 => r = some (.int (mB (wiB v lo hi))) ∧ M = M1) := by
  refine CC.of rfl (Nat.le_of_ble_eq_true rfl) rfl (fun X C Tr => ?_)
  show V X 0 0 0 [some (.int v), some (.int lo), some (.int hi)] [] M
  refine s_iload_n C 1 dX7_within_0 rfl rfl ?_
  refine s_iload_n C 2 dX7_within_1 rfl rfl ?_
  refine s_icmp_lt C 14 5 dX7_within_2 (by decide) rfl (fun z2 => ?_) (fun z2 => ?_)
  · skip
    have hz : wiB v lo hi = false := decide_eq_false (fun w => w.1 z2)
    refine s_iconst C 15 (nI 0) dX7_within_14 rfl (by decide) ?_
    exact s_zret C dX7_within_15 Tr rfl (by decide) ⟨rF hz, rfl⟩
  · skip
    refine s_iload_n C 6 dX7_within_5 rfl rfl ?_
    refine s_iload_n C 7 dX7_within_6 rfl rfl ?_
    refine s_icmp_gt C 14 10 dX7_within_7 (by decide) rfl (fun z7 => ?_) (fun z7 => ?_)
    · skip
      have hz : wiB v lo hi = false := decide_eq_false (fun w => w.2 z7)
      refine s_iconst C 15 (nI 0) dX7_within_14 rfl (by decide) ?_
      exact s_zret C dX7_within_15 Tr rfl (by decide) ⟨rF hz, rfl⟩
    · skip
      have hz : wiB v lo hi = true := decide_eq_true ⟨z2, z7⟩
      refine s_iconst C 11 (nI 1) dX7_within_10 rfl (by decide) ?_
      refine s_goto C 15 dX7_within_11 (by decide) ?_
      exact s_zret C dX7_within_15 Tr rfl (by decide) ⟨rT hz, rfl⟩

set_option maxRecDepth 100000 in
set_option maxHeartbeats 4000000 in
theorem n_isLetter {G : mG} {M : mM} {v : Int32} : CC G iX7_isLetter 0 0 [.int v] M (fun r M1 => r = some (.int (mB (isL v))) ∧ M = M1) := by
  refine CC.of rfl (Nat.le_of_ble_eq_true rfl) rfl (fun X C Tr => ?_)
  show V X 0 0 0 [some (.int v)] [] M
  refine s_iload_n C 1 dX7_isLetter_0 rfl rfl ?_
  refine s_bipush C 3 (nI 97) dX7_isLetter_1 rfl (by decide) ?_
  refine s_bipush C 5 (nI 122) dX7_isLetter_3 rfl (by decide) ?_
  refine s_invS C 8 0 0 [] dX7_isLetter_5 rfl m_X7_47 (n_within) rfl rfl rfl ⟨by decide, by decide⟩ (Nat.le_of_ble_eq_true rfl) (by omega) (by omega) ?_
  rintro _ M1 ⟨rfl, rfl⟩
  dsimp only [Option.toList, List.cons_append, List.nil_append]
  refine s_if_neB C 22 11 dX7_isLetter_8 (by decide) rfl (fun z8 => ?_) (fun z8 => ?_)
  · skip
    refine s_iconst C 23 (nI 1) dX7_isLetter_22 rfl (by decide) ?_
    refine s_goto C 27 dX7_isLetter_23 (by decide) ?_
    exact s_zret C dX7_isLetter_27 Tr rfl (by decide) ⟨rT (by rw [← wiB_isL]; simp [*]), rfl⟩
  · skip
    refine s_iload_n C 12 dX7_isLetter_11 rfl rfl ?_
    refine s_bipush C 14 (nI 48) dX7_isLetter_12 rfl (by decide) ?_
    refine s_bipush C 16 (nI 57) dX7_isLetter_14 rfl (by decide) ?_
    refine s_invS C 19 0 0 [] dX7_isLetter_16 rfl m_X7_47 (n_within) rfl rfl rfl ⟨by decide, by decide⟩ (Nat.le_of_ble_eq_true rfl) (by omega) (by omega) ?_
    rintro _ M2 ⟨rfl, rfl⟩
    dsimp only [Option.toList, List.cons_append, List.nil_append]
    refine s_if_eqB C 26 22 dX7_isLetter_19 (by decide) rfl (fun z19 => ?_) (fun z19 => ?_)
    · skip
      refine s_iconst C 27 (nI 0) dX7_isLetter_26 rfl (by decide) ?_
      exact s_zret C dX7_isLetter_27 Tr rfl (by decide) ⟨rF (by rw [← wiB_isL]; simp [*]), rfl⟩
    · skip
      refine s_iconst C 23 (nI 1) dX7_isLetter_22 rfl (by decide) ?_
      refine s_goto C 27 dX7_isLetter_23 (by decide) ?_
      exact s_zret C dX7_isLetter_27 Tr rfl (by decide) ⟨rT (by rw [← wiB_isL]; simp [*]), rfl⟩

set_option maxRecDepth 100000 in
set_option maxHeartbeats 4000000 in
theorem n_part {G : mG} {M : mM} {m sa ha c xa tl ra la qa al ka rm pa za wa ua ap nu be en : Nat} {fs fe cm : Int32} (hO : M m = some (300, .inl (8, nL sa ha c xa tl ra la qa al ka rm pa fs fe za wa ua ap cm nu be en))) {S : Nat → Int32} (hS : M sa = some (301, .inr (0, 444, .inl S))) {t k : Nat} (hk : 28 + 26 * t + k < 444) : CC G iX7_part 0 0 [.ref m, .int (nI t), .int (nI k)] M (fun r M1 => r = some (.int (S (28 + 26 * t + k))) ∧ M = M1) := by
  refine CC.of rfl (Nat.le_of_ble_eq_true rfl) rfl (fun X C Tr => ?_)
  show V X 0 0 0 [some (.ref m), some (.int (nI t)), some (.int (nI k))] [] M
  refine s_aload_n C 1 dX7_part_0 rfl rfl ?_
  refine s_getf C 4 dX7_part_1 rfl f_X7_7 hO rfl ?_
  refine s_bipush C 6 (nI 28) dX7_part_4 rfl (by decide) ?_
  refine s_bipush C 8 (nI 26) dX7_part_6 rfl (by decide) ?_
  refine s_iload_n C 9 dX7_part_8 rfl rfl ?_
  refine s_imulN C 10 dX7_part_9 rfl ?_
  refine s_iaddN C 11 dX7_part_10 rfl ?_
  refine s_iload_n C 12 dX7_part_11 rfl rfl ?_
  refine s_iaddN C 13 dX7_part_12 rfl ?_
  refine s_iald C 14 dX7_part_13 rfl hS (by omega) (by omega) ?_
  exact s_iret C dX7_part_14 Tr rfl ⟨rfl, rfl⟩

set_option maxRecDepth 100000 in
set_option maxHeartbeats 4000000 in
theorem n_len {G : mG} {M : mM} {m sa ha c xa tl ra la qa al ka rm pa za wa ua ap nu be en : Nat} {fs fe cm : Int32} (hO : M m = some (300, .inl (8, nL sa ha c xa tl ra la qa al ka rm pa fs fe za wa ua ap cm nu be en))) {S : Nat → Int32} (hS : M sa = some (301, .inr (0, 444, .inl S))) {T mo od ql : Nat} {q : Nat → Int32} {ln : Nat → Nat} {fl : Nat → Nat → Int32} {us : Nat → Int32} (hx : SR S T mo od ql q ln fl us) {t : Nat} (ht : t < T) (hT : T ≤ 16) : CC G iX7_lengthOf 0 0 [.ref m, .int (nI t)] M (fun r M1 => r = some (.int (nI (ln t))) ∧ M = M1) := by
  refine CC.of rfl (Nat.le_of_ble_eq_true rfl) rfl (fun X C Tr => ?_)
  show V X 0 0 0 [some (.ref m), some (.int (nI t))] [] M
  refine s_aload_n C 1 dX7_lengthOf_0 rfl rfl ?_
  refine s_iload_n C 2 dX7_lengthOf_1 rfl rfl ?_
  refine s_iconst C 3 (nI 0) dX7_lengthOf_2 rfl (by decide) ?_
  refine s_invV C 6 0 0 [] (mRv_of hO rfl) dX7_lengthOf_3 rfl m_X7_51 (n_part hO hS (t := t) (k := 0) (by omega)) rfl rfl rfl ⟨by decide, by decide⟩ (Nat.le_of_ble_eq_true rfl) (by omega) (by omega) ?_
  rintro _ M1 ⟨rfl, rfl⟩
  dsimp only [Option.toList, List.cons_append, List.nil_append]
  exact s_iret C dX7_lengthOf_6 Tr rfl ⟨by rw [Nat.add_zero, (hx.2.2.2.2.2 t ht).1], rfl⟩

set_option maxRecDepth 100000 in
set_option maxHeartbeats 4000000 in
theorem n_char {G : mG} {M : mM} {m sa ha c xa tl ra la qa al ka rm pa za wa ua ap nu be en : Nat} {fs fe cm : Int32} (hO : M m = some (300, .inl (8, nL sa ha c xa tl ra la qa al ka rm pa fs fe za wa ua ap cm nu be en))) {S : Nat → Int32} (hS : M sa = some (301, .inr (0, 444, .inl S))) {T mo od ql : Nat} {q : Nat → Int32} {ln : Nat → Nat} {fl : Nat → Nat → Int32} {us : Nat → Int32} (hx : SR S T mo od ql q ln fl us) {t k : Nat} (ht : t < T) (hT : T ≤ 16) (hk : k < ln t) (hl : ln t ≤ 24) : CC G iX7_characterOf 0 0 [.ref m, .int (nI t), .int (nI k)] M (fun r M1 => r = some (.int (fl t k)) ∧ M = M1) := by
  refine CC.of rfl (Nat.le_of_ble_eq_true rfl) rfl (fun X C Tr => ?_)
  show V X 0 0 0 [some (.ref m), some (.int (nI t)), some (.int (nI k))] [] M
  refine s_aload_n C 1 dX7_characterOf_0 rfl rfl ?_
  refine s_iload_n C 2 dX7_characterOf_1 rfl rfl ?_
  refine s_iconst C 3 (nI 2) dX7_characterOf_2 rfl (by decide) ?_
  refine s_iload_n C 4 dX7_characterOf_3 rfl rfl ?_
  refine s_iaddN C 5 dX7_characterOf_4 rfl ?_
  refine s_invV C 8 0 0 [] (mRv_of hO rfl) dX7_characterOf_5 rfl m_X7_51 (n_part hO hS (t := t) (k := 2 + k) (by omega)) rfl rfl rfl ⟨by decide, by decide⟩ (Nat.le_of_ble_eq_true rfl) (by omega) (by omega) ?_
  rintro _ M1 ⟨rfl, rfl⟩
  dsimp only [Option.toList, List.cons_append, List.nil_append]
  exact s_iret C dX7_characterOf_8 Tr rfl ⟨by rw [show 28 + 26 * t + (2 + k) = 30 + 26 * t + k by omega, (hx.2.2.2.2.2 t ht).2.2 k hk], rfl⟩

set_option maxRecDepth 100000 in
set_option maxHeartbeats 4000000 in
theorem n_begins {G : mG} {M : mM} {m sa ha c xa tl ra la qa al ka rm pa za wa ua ap nu be en : Nat} {fs fe cm : Int32} (hO : M m = some (300, .inl (8, nL sa ha c xa tl ra la qa al ka rm pa fs fe za wa ua ap cm nu be en))) {S : Nat → Int32} (hS : M sa = some (301, .inr (0, 444, .inl S))) {T mo od ql : Nat} {q : Nat → Int32} {ln : Nat → Nat} {fl : Nat → Nat → Int32} {us : Nat → Int32} (hx : SR S T mo od ql q ln fl us) (hok : okX T mo od ql q ln fl) {t k : Nat} (ht : t < T) (hk : k < ln t) : CC G iX7_beginsWord 0 0 [.ref m, .int (nI t), .int (nI k)] M (fun r M1 => r = some (.int (mB (wsB (fl t) k))) ∧ M = M1) := by
  refine CC.of rfl (Nat.le_of_ble_eq_true rfl) rfl (fun X C Tr => ?_)
  show V X 0 0 0 [some (.ref m), some (.int (nI t)), some (.int (nI k))] [] M
  have hx8 := hx
  obtain ⟨hx0, hx1, hx2, hx3, hxq, hxt⟩ := hx
  have hT16 := hok.T16
  have hm4 := hok.m4
  have ho3 := hok.o3
  have hq24 := hok.q24
  have hl24 := (hok.V t ht).2.1
  refine s_aload_n C 1 dX7_beginsWord_0 rfl rfl ?_
  refine s_iload_n C 2 dX7_beginsWord_1 rfl rfl ?_
  refine s_iload_n C 3 dX7_beginsWord_2 rfl rfl ?_
  refine s_invV C 6 0 0 [] (mRv_of hO rfl) dX7_beginsWord_3 rfl m_X7_55 (n_char hO hS hx8 (t := t) (k := k) (by omega) hT16 (by omega) (hok.V _ (by omega)).2.1) rfl rfl rfl ⟨by decide, by decide⟩ (Nat.le_of_ble_eq_true rfl) (by omega) (by omega) ?_
  rintro _ M1 ⟨rfl, rfl⟩
  dsimp only [Option.toList, List.cons_append, List.nil_append]
  refine s_bipush C 8 (nI 32) dX7_beginsWord_6 rfl (by decide) ?_
  refine s_icmp_eq C 32 11 dX7_beginsWord_8 (by decide) rfl (fun z8 => ?_) (fun z8 => ?_)
  · skip
    have hz : wsB (fl t) k = false := wsB_ns (hok.V t ht) hk z8
    refine s_iconst C 33 (nI 0) dX7_beginsWord_32 rfl (by decide) ?_
    exact s_zret C dX7_beginsWord_33 Tr rfl (by decide) ⟨rF hz, rfl⟩
  · skip
    refine s_iload_n C 12 dX7_beginsWord_11 rfl rfl ?_
    refine s_if_eqN C 28 15 dX7_beginsWord_12 (by decide) rfl (by omega) (fun z12 => ?_) (fun z12 => ?_)
    · skip
      have hz : wsB (fl t) k = true := decide_eq_true (Or.inl z12)
      refine s_iconst C 29 (nI 1) dX7_beginsWord_28 rfl (by decide) ?_
      refine s_goto C 33 dX7_beginsWord_29 (by decide) ?_
      exact s_zret C dX7_beginsWord_33 Tr rfl (by decide) ⟨rT hz, rfl⟩
    · skip
      refine s_aload_n C 16 dX7_beginsWord_15 rfl rfl ?_
      refine s_iload_n C 17 dX7_beginsWord_16 rfl rfl ?_
      refine s_iload_n C 18 dX7_beginsWord_17 rfl rfl ?_
      refine s_iconst C 19 (nI 1) dX7_beginsWord_18 rfl (by decide) ?_
      refine s_isubN C 20 dX7_beginsWord_19 rfl (by omega) ?_
      refine s_invV C 23 0 0 [] (mRv_of hO rfl) dX7_beginsWord_20 rfl m_X7_55 (n_char hO hS hx8 (t := t) (k := (k - 1)) (by omega) hT16 (by omega) (hok.V _ (by omega)).2.1) rfl rfl rfl ⟨by decide, by decide⟩ (Nat.le_of_ble_eq_true rfl) (by omega) (by omega) ?_
      rintro _ M2 ⟨rfl, rfl⟩
      dsimp only [Option.toList, List.cons_append, List.nil_append]
      refine s_bipush C 25 (nI 32) dX7_beginsWord_23 rfl (by decide) ?_
      refine s_icmp_ne C 32 28 dX7_beginsWord_25 (by decide) rfl (fun z25 => ?_) (fun z25 => ?_)
      · skip
        have hz : wsB (fl t) k = false := decide_eq_false (fun w => w.elim z12 z25)
        refine s_iconst C 33 (nI 0) dX7_beginsWord_32 rfl (by decide) ?_
        exact s_zret C dX7_beginsWord_33 Tr rfl (by decide) ⟨rF hz, rfl⟩
      · skip
        have hz : wsB (fl t) k = true := decide_eq_true (Or.inr z25)
        refine s_iconst C 29 (nI 1) dX7_beginsWord_28 rfl (by decide) ?_
        refine s_goto C 33 dX7_beginsWord_29 (by decide) ?_
        exact s_zret C dX7_beginsWord_33 Tr rfl (by decide) ⟨rT hz, rfl⟩

set_option maxRecDepth 100000 in
set_option maxHeartbeats 4000000 in
theorem n_src {G : mG} {M : mM} {m sa ha c xa tl ra la qa al ka rm pa za wa ua ap nu be en : Nat} {fs fe cm : Int32} (hO : M m = some (300, .inl (8, nL sa ha c xa tl ra la qa al ka rm pa fs fe za wa ua ap cm nu be en))) {so : Nat → Int32} (hSo : M ra = some (304, .inr (0, 384, .inl so))) {t k : Nat} (hk : 24 * t + k < 384) : CC G iX7_sourceAt 0 0 [.ref m, .int (nI t), .int (nI k)] M (fun r M1 => r = some (.int (so (24 * t + k))) ∧ M = M1) := by
  refine CC.of rfl (Nat.le_of_ble_eq_true rfl) rfl (fun X C Tr => ?_)
  show V X 0 0 0 [some (.ref m), some (.int (nI t)), some (.int (nI k))] [] M
  refine s_aload_n C 1 dX7_sourceAt_0 rfl rfl ?_
  refine s_getf C 4 dX7_sourceAt_1 rfl f_X7_19 hO rfl ?_
  refine s_bipush C 6 (nI 24) dX7_sourceAt_4 rfl (by decide) ?_
  refine s_iload_n C 7 dX7_sourceAt_6 rfl rfl ?_
  refine s_imulN C 8 dX7_sourceAt_7 rfl ?_
  refine s_iload_n C 9 dX7_sourceAt_8 rfl rfl ?_
  refine s_iaddN C 10 dX7_sourceAt_9 rfl ?_
  refine s_iald C 11 dX7_sourceAt_10 rfl hSo (by omega) (by omega) ?_
  exact s_iret C dX7_sourceAt_11 Tr rfl ⟨rfl, rfl⟩

set_option maxRecDepth 100000 in
set_option maxHeartbeats 4000000 in
theorem n_canStart {G : mG} {M : mM} {m sa ha c xa tl ra la qa al ka rm pa za wa ua ap nu be en : Nat} {fs fe cm : Int32} (hO : M m = some (300, .inl (8, nL sa ha c xa tl ra la qa al ka rm pa fs fe za wa ua ap cm nu be en))) {S : Nat → Int32} (hS : M sa = some (301, .inr (0, 444, .inl S))) {T mo od ql : Nat} {q : Nat → Int32} {ln : Nat → Nat} {fl : Nat → Nat → Int32} {us : Nat → Int32} (hx : SR S T mo od ql q ln fl us) (hok : okX T mo od ql q ln fl) {so sn : Nat → Int32} (hSo : M ra = some (304, .inr (0, 384, .inl so))) (hSn : M la = some (305, .inr (0, 16, .inl sn))) (hsr : srO so sn T mo ln fl) {t k : Nat} (ht : t < T) (hk : k < srN mo (ln t) (fl t)) : CC G iX7_canStart 0 0 [.ref m, .int (nI t), .int (nI k)] M (fun r M1 => r = some (.int (mB (spB mo (ln t) (1 + cnB (fl t) (ln t)) (fl t) k))) ∧ M = M1) := by
  refine CC.of rfl (Nat.le_of_ble_eq_true rfl) rfl (fun X C Tr => ?_)
  show V X 0 0 0 [some (.ref m), some (.int (nI t)), some (.int (nI k))] [] M
  have hx8 := hx
  obtain ⟨hx0, hx1, hx2, hx3, hxq, hxt⟩ := hx
  have hT16 := hok.T16
  have hm4 := hok.m4
  have ho3 := hok.o3
  have hq24 := hok.q24
  have hsn24 := (hok.V t ht).sr (mo := mo)
  have hsnl := srN_le (mo := mo) (hok.V t ht)
  have hl24 := (hok.V t ht).2.1
  refine s_aload_n C 1 dX7_canStart_0 rfl rfl ?_
  refine s_getf C 4 dX7_canStart_1 rfl f_X7_7 hO rfl ?_
  refine s_iconst C 5 (nI 1) dX7_canStart_4 rfl (by decide) ?_
  refine s_iald C 6 dX7_canStart_5 rfl hS (by omega) (by omega) ?_
  rw [hx1]
  by_cases w6_0 : mo = 0
  · skip
    refine s_tabI C 32 dX7_canStart_6 (off := 26) (by rw [w6_0]; decide) (by rw [w6_0]; decide) (by rw [w6_0]; rfl) (by decide) ?_
    subst w6_0
    refine s_aload_n C 33 dX7_canStart_32 rfl rfl ?_
    refine s_iload_n C 34 dX7_canStart_33 rfl rfl ?_
    refine s_iload_n C 35 dX7_canStart_34 rfl rfl ?_
    refine s_invV C 38 0 0 [] (mRv_of hO rfl) dX7_canStart_35 rfl m_X7_66 (n_src hO hSo (t := t) (k := k) (by omega)) rfl rfl rfl ⟨by decide, by decide⟩ (Nat.le_of_ble_eq_true rfl) (by omega) (by omega) ?_
    rintro _ M1 ⟨rfl, rfl⟩
    dsimp only [Option.toList, List.cons_append, List.nil_append]
    rw [(hsr t ht).2 k hk, srG_o (by omega)]
    refine s_bipush C 40 (nI 32) dX7_canStart_38 rfl (by decide) ?_
    refine s_icmp_eq C 47 43 dX7_canStart_40 (by decide) rfl (fun z40 => ?_) (fun z40 => ?_)
    · skip
      refine s_iconst C 48 (nI 0) dX7_canStart_47 rfl (by decide) ?_
      exact s_zret C dX7_canStart_48 Tr rfl (by decide) ⟨rF (by rw [spB_0 (by omega)]; simp [*]), rfl⟩
    · skip
      refine s_iconst C 44 (nI 1) dX7_canStart_43 rfl (by decide) ?_
      refine s_goto C 48 dX7_canStart_44 (by decide) ?_
      exact s_zret C dX7_canStart_48 Tr rfl (by decide) ⟨rT (by rw [spB_0 (by omega)]; simp [*]), rfl⟩
  by_cases w6_1 : mo = 1
  · skip
    refine s_tabI C 49 dX7_canStart_6 (off := 43) (by rw [w6_1]; decide) (by rw [w6_1]; decide) (by rw [w6_1]; rfl) (by decide) ?_
    subst w6_1
    refine s_iload_n C 50 dX7_canStart_49 rfl rfl ?_
    refine s_if_neN C 57 53 dX7_canStart_50 (by decide) rfl (by omega) (fun z50 => ?_) (fun z50 => ?_)
    · skip
      refine s_iconst C 58 (nI 0) dX7_canStart_57 rfl (by decide) ?_
      exact s_zret C dX7_canStart_58 Tr rfl (by decide) ⟨rF (by rw [spB_1 (by omega)]; simp [*]), rfl⟩
    · skip
      refine s_iconst C 54 (nI 1) dX7_canStart_53 rfl (by decide) ?_
      refine s_goto C 58 dX7_canStart_54 (by decide) ?_
      exact s_zret C dX7_canStart_58 Tr rfl (by decide) ⟨rT (by rw [spB_1 (by omega)]; simp [*]), rfl⟩
  by_cases w6_2 : mo = 2
  · skip
    refine s_tabI C 59 dX7_canStart_6 (off := 53) (by rw [w6_2]; decide) (by rw [w6_2]; decide) (by rw [w6_2]; rfl) (by decide) ?_
    subst w6_2
    refine s_aload_n C 60 dX7_canStart_59 rfl rfl ?_
    refine s_iload_n C 61 dX7_canStart_60 rfl rfl ?_
    refine s_iload_n C 62 dX7_canStart_61 rfl rfl ?_
    refine s_invV C 65 0 0 [] (mRv_of hO rfl) dX7_canStart_62 rfl m_X7_62 (n_begins hO hS hx8 hok (t := t) (k := k) (by omega) (by omega)) rfl rfl rfl ⟨by decide, by decide⟩ (Nat.le_of_ble_eq_true rfl) (by omega) (by omega) ?_
    rintro _ M2 ⟨rfl, rfl⟩
    dsimp only [Option.toList, List.cons_append, List.nil_append]
    exact s_zret C dX7_canStart_65 Tr rfl (mB_z _) ⟨by rw [spB_2 (by omega)], rfl⟩
  refine s_tabO C 66 dX7_canStart_6 (by rw [nI_toInt (by omega)]; omega) (by decide) ?_
  have hmo3 : mo = 3 := by omega
  subst hmo3
  refine s_iconst C 67 (nI 1) dX7_canStart_66 rfl (by decide) ?_
  exact s_zret C dX7_canStart_67 Tr rfl (by decide) ⟨rT (spB_3 (by rw [srN_3 (hok.V t ht), (hok.V t ht).im] at hk; exact hk)), rfl⟩

set_option maxRecDepth 100000 in
set_option maxHeartbeats 4000000 in
theorem n_isPiece {G : mG} {M : mM} {m sa ha c xa tl ra la qa al ka rm pa za wa ua ap nu be en : Nat} {fs fe cm : Int32} (hO : M m = some (300, .inl (8, nL sa ha c xa tl ra la qa al ka rm pa fs fe za wa ua ap cm nu be en))) {S : Nat → Int32} (hS : M sa = some (301, .inr (0, 444, .inl S))) {T mo od ql : Nat} {q : Nat → Int32} {ln : Nat → Nat} {fl : Nat → Nat → Int32} {us : Nat → Int32} (hx : SR S T mo od ql q ln fl us) (hok : okX T mo od ql q ln fl) {so sn : Nat → Int32} (hSo : M ra = some (304, .inr (0, 384, .inl so))) (hSn : M la = some (305, .inr (0, 16, .inl sn))) (hsr : srO so sn T mo ln fl) {t s l : Nat} (ht : t < T) (hl : 0 < l) (hs1 : s < 1000) (hl1 : l < 1000) : CC G iX7_isPiece 0 0 [.ref m, .int (nI t), .int (nI s), .int (nI l)] M (fun r M1 => r = some (.int (mB (pcB mo (ln t) (fl t) s l))) ∧ M = M1) := by
  refine CC.of rfl (Nat.le_of_ble_eq_true rfl) rfl (fun X C Tr => ?_)
  show V X 0 0 0 [some (.ref m), some (.int (nI t)), some (.int (nI s)), some (.int (nI l))] [] M
  have hx8 := hx
  obtain ⟨hx0, hx1, hx2, hx3, hxq, hxt⟩ := hx
  have hT16 := hok.T16
  have hm4 := hok.m4
  have ho3 := hok.o3
  have hq24 := hok.q24
  have hsn24 := (hok.V t ht).sr (mo := mo)
  have hsnl := srN_le (mo := mo) (hok.V t ht)
  have hl24 := (hok.V t ht).2.1
  refine s_iload_n C 1 dX7_isPiece_0 rfl rfl ?_
  refine s_iload_n C 2 dX7_isPiece_1 rfl rfl ?_
  refine s_iaddN C 3 dX7_isPiece_2 rfl ?_
  refine s_aload_n C 4 dX7_isPiece_3 rfl rfl ?_
  refine s_getf C 7 dX7_isPiece_4 rfl f_X7_22 hO rfl ?_
  refine s_iload_n C 8 dX7_isPiece_7 rfl rfl ?_
  refine s_iald C 9 dX7_isPiece_8 rfl hSn (by omega) (by omega) ?_
  rw [(hsr t (by omega)).1]
  refine s_icmp_gtN C 40 12 dX7_isPiece_9 (by decide) rfl (by omega) (by omega) (fun z9 => ?_) (fun z9 => ?_)
  · skip
    have hz : pcB mo (ln t) (fl t) s l = false := pcB_no (by omega)
    refine s_iconst C 41 (nI 0) dX7_isPiece_40 rfl (by decide) ?_
    exact s_zret C dX7_isPiece_41 Tr rfl (by decide) ⟨rF hz, rfl⟩
  · skip
    refine s_aload_n C 13 dX7_isPiece_12 rfl rfl ?_
    refine s_iload_n C 14 dX7_isPiece_13 rfl rfl ?_
    refine s_iload_n C 15 dX7_isPiece_14 rfl rfl ?_
    refine s_invV C 18 0 0 [] (mRv_of hO rfl) dX7_isPiece_15 rfl m_X7_69 (n_canStart hO hS hx8 hok hSo hSn hsr (t := t) (k := s) ht (by omega)) rfl rfl rfl ⟨by decide, by decide⟩ (Nat.le_of_ble_eq_true rfl) (by omega) (by omega) ?_
    rintro _ M1 ⟨rfl, rfl⟩
    dsimp only [Option.toList, List.cons_append, List.nil_append]
    refine s_if_eqB C 40 21 dX7_isPiece_18 (by decide) rfl (fun z18 => ?_) (fun z18 => ?_)
    · skip
      have hz : pcB mo (ln t) (fl t) s l = false := by rw [pcB_iff hl (by omega), z18]; rfl
      refine s_iconst C 41 (nI 0) dX7_isPiece_40 rfl (by decide) ?_
      exact s_zret C dX7_isPiece_41 Tr rfl (by decide) ⟨rF hz, rfl⟩
    · skip
      refine s_aload_n C 22 dX7_isPiece_21 rfl rfl ?_
      refine s_iload_n C 23 dX7_isPiece_22 rfl rfl ?_
      refine s_iload_n C 24 dX7_isPiece_23 rfl rfl ?_
      refine s_iload_n C 25 dX7_isPiece_24 rfl rfl ?_
      refine s_iaddN C 26 dX7_isPiece_25 rfl ?_
      refine s_iconst C 27 (nI 1) dX7_isPiece_26 rfl (by decide) ?_
      refine s_isubN C 28 dX7_isPiece_27 rfl (by omega) ?_
      refine s_invV C 31 0 0 [] (mRv_of hO rfl) dX7_isPiece_28 rfl m_X7_66 (n_src hO hSo (t := t) (k := ((s + l) - 1)) (by omega)) rfl rfl rfl ⟨by decide, by decide⟩ (Nat.le_of_ble_eq_true rfl) (by omega) (by omega) ?_
      rintro _ M2 ⟨rfl, rfl⟩
      dsimp only [Option.toList, List.cons_append, List.nil_append]
      rw [(hsr t (by omega)).2 ((s + l) - 1) (by omega)]
      refine s_bipush C 33 (nI 32) dX7_isPiece_31 rfl (by decide) ?_
      refine s_icmp_eq C 40 36 dX7_isPiece_33 (by decide) rfl (fun z33 => ?_) (fun z33 => ?_)
      · skip
        have hz : pcB mo (ln t) (fl t) s l = false := by rw [pcB_iff hl (by omega), decide_eq_false (fun w => w z33), Bool.and_false]
        refine s_iconst C 41 (nI 0) dX7_isPiece_40 rfl (by decide) ?_
        exact s_zret C dX7_isPiece_41 Tr rfl (by decide) ⟨rF hz, rfl⟩
      · skip
        have hz : pcB mo (ln t) (fl t) s l = true := by rw [pcB_iff hl (by omega), z18, decide_eq_true z33]; rfl
        refine s_iconst C 37 (nI 1) dX7_isPiece_36 rfl (by decide) ?_
        refine s_goto C 41 dX7_isPiece_37 (by decide) ?_
        exact s_zret C dX7_isPiece_41 Tr rfl (by decide) ⟨rT hz, rfl⟩

set_option maxRecDepth 100000 in
set_option maxHeartbeats 4000000 in
theorem n_asks {G : mG} {M : mM} {m sa ha c xa tl ra la qa al ka rm pa za wa ua ap nu be en : Nat} {fs fe cm : Int32} (hO : M m = some (300, .inl (8, nL sa ha c xa tl ra la qa al ka rm pa fs fe za wa ua ap cm nu be en))) {T mo od ql : Nat} {q : Nat → Int32} {ln : Nat → Nat} {fl : Nat → Nat → Int32} {us : Nat → Int32} (hok : okX T mo od ql q ln fl) {so sn : Nat → Int32} (hSo : M ra = some (304, .inr (0, 384, .inl so))) (hSn : M la = some (305, .inr (0, 16, .inl sn))) (hsr : srO so sn T mo ln fl) {Q : Nat → Int32} (hQ : M qa = some (306, .inr (0, 24, .inl Q))) {t s l : Nat} (ht : t < T) (hl : s + l ≤ srN mo (ln t) (fl t)) : CC G iX7_asks 0 0 [.ref m, .int (nI t), .int (nI s), .int (nI l)] M (fun r M1 => r = none ∧ M1 m = some (300, .inl (8, nL sa ha c xa tl ra la qa l ka rm pa fs fe za wa ua ap cm nu be en)) ∧ (∃ Q1 : Nat → Int32, M1 qa = some (306, .inr (0, 24, .inl Q1)) ∧ ∀ x, x < l → Q1 x = srG mo (ln t) (fl t) (s + x)) ∧ mZ [300, 306] M M1) := by
  refine CC.of rfl (Nat.le_of_ble_eq_true rfl) rfl (fun X C Tr => ?_)
  show V X 0 0 0 [some (.ref m), some (.int (nI t)), some (.int (nI s)), some (.int (nI l)), none] [] M
  have hT16 := hok.T16
  have hsn24 := (hok.V t ht).sr (mo := mo)
  have hsnl := srN_le (mo := mo) (hok.V t ht)
  have hl24 := (hok.V t ht).2.1
  have hF : mZ [300, 306] M M := mZ.rf
  refine s_aload_n C 1 dX7_asks_0 rfl rfl ?_
  refine s_iload_n C 2 dX7_asks_1 rfl rfl ?_
  refine s_putU C 5 dX7_asks_2 rfl p_X7_72 hO (by first | decide | omega) rfl rfl rfl (fs' := [.ref sa, .ref ha, .int (nI c), .ref xa, .int (nI tl), .ref ra, .ref la, .ref qa, .int (nI l), .ref ka, .int (nI rm), .ref pa, .int fs, .int fe, .ref za, .ref wa, .ref ua, .int (nI ap), .int cm, .int (nI nu), .int (nI be), .int (nI en)]) rfl (fun M1 U2 => ?_)
  have hSo := U2.o hO hSo (by first | decide | omega)
  have hSn := U2.o hO hSn (by first | decide | omega)
  have hQ := U2.o hO hQ (by first | decide | omega)
  have hF := hF.put U2 hO (by first | decide | (simp; done) | (simp; omega) | (simp [*]; done))
  have hO := U2.s
  refine s_iconst C 6 (nI 0) dX7_asks_5 rfl (by decide) ?_
  refine s_istore C 8 dX7_asks_6 rfl rfl rfl ?_
  dsimp only [List.set]
  suffices lp8 : ∀ (fu8 : Nat) (k : Nat) (Q9 : Nat → Int32) (M9 : mM), l - k < fu8 → k ≤ l → (∀ x, x < k → Q9 x = srG mo (ln t) (fl t) (s + x)) → M9 m = some (300, .inl (8, nL sa ha c xa tl ra la qa l ka rm pa fs fe za wa ua ap cm nu be en)) → M9 ra = some (304, .inr (0, 384, .inl so)) → M9 la = some (305, .inr (0, 16, .inl sn)) → M9 qa = some (306, .inr (0, 24, .inl Q9)) → mZ [300, 306] M M9 → V X 0 0 8 [some (.ref m), some (.int (nI t)), some (.int (nI s)), some (.int (nI l)), some (.int (nI k))] [] M9 from lp8 (l + 1) 0 _ _ (by omega) (by omega) (fun x hx => by omega) hO hSo hSn hQ hF
  intro fu8
  induction fu8 with
  | zero => intro k Q9 M9 hk0 hk hQk hO hSo hSn hQ hF; omega
  | succ fu8 ih8 =>
    intro k Q9 M9 hk0 hk hQk hO hSo hSn hQ hF
    refine s_iload C 10 dX7_asks_8 rfl rfl ?_
    refine s_iload_n C 11 dX7_asks_10 rfl rfl ?_
    refine s_icmp_geN C 36 14 dX7_asks_11 (by decide) rfl (by omega) (by omega) (fun z11 => ?_) (fun z11 => ?_)
    · skip
      have hke : k = l := by omega
      exact s_vret C dX7_asks_36 Tr rfl ⟨rfl, hO, ⟨_, hQ, fun x hx => hQk x (by omega)⟩, hF⟩
    · skip
      refine s_aload_n C 15 dX7_asks_14 rfl rfl ?_
      refine s_getf C 18 dX7_asks_15 rfl f_X7_25 hO rfl ?_
      refine s_iload C 20 dX7_asks_18 rfl rfl ?_
      refine s_aload_n C 21 dX7_asks_20 rfl rfl ?_
      refine s_iload_n C 22 dX7_asks_21 rfl rfl ?_
      refine s_iload_n C 23 dX7_asks_22 rfl rfl ?_
      refine s_iload C 25 dX7_asks_23 rfl rfl ?_
      refine s_iaddN C 26 dX7_asks_25 rfl ?_
      refine s_invV C 29 0 0 [.int (nI k), .ref qa] (mRv_of hO rfl) dX7_asks_26 rfl m_X7_66 (n_src hO hSo (t := t) (k := (s + k)) (by omega)) rfl rfl rfl ⟨by decide, by decide⟩ (Nat.le_of_ble_eq_true rfl) (by omega) (by omega) ?_
      rintro _ M3 ⟨rfl, rfl⟩
      dsimp only [Option.toList, List.cons_append, List.nil_append]
      rw [(hsr t (by omega)).2 (s + k) (by omega)]
      refine s_iastU C 30 dX7_asks_29 rfl hQ (by first | decide | omega) (by omega) (by omega) (fun M4 U5 => ?_)
      have hO := U5.o hQ hO (by first | decide | omega)
      have hSo := U5.o hQ hSo (by first | decide | omega)
      have hSn := U5.o hQ hSn (by first | decide | omega)
      have hF := hF.put U5 hQ (by first | decide | (simp; done) | (simp; omega) | (simp [*]; done))
      have hQ := U5.s
      refine s_iinc C 33 (nI (k + 1)) dX7_asks_30 rfl rfl (by rw [← nI_add]; rfl) rfl ?_
      dsimp only [List.set]
      refine s_goto C 8 dX7_asks_33 (by decide) ?_
      exact ih8 (k + 1) _ _ (by omega) (by omega) (fun x hx => by by_cases e : x = k; (· rw [e]; exact pk_us); rw [pk_un e]; exact hQk x (by omega)) hO hSo hSn hQ hF

set_option maxRecDepth 100000 in
set_option maxHeartbeats 4000000 in
theorem n_placeIn {G : mG} {M : mM} {m sa ha c xa tl ra la qa al ka rm pa za wa ua ap nu be en : Nat} {fs fe cm : Int32} (hO : M m = some (300, .inl (8, nL sa ha c xa tl ra la qa al ka rm pa fs fe za wa ua ap cm nu be en))) {S : Nat → Int32} (hS : M sa = some (301, .inr (0, 444, .inl S))) {T mo od ql : Nat} {q : Nat → Int32} {ln : Nat → Nat} {fl : Nat → Nat → Int32} {us : Nat → Int32} (hx : SR S T mo od ql q ln fl us) (hok : okX T mo od ql q ln fl) {so sn : Nat → Int32} (hSo : M ra = some (304, .inr (0, 384, .inl so))) (hSn : M la = some (305, .inr (0, 16, .inl sn))) (hsr : srO so sn T mo ln fl) {Q a : Nat → Int32} (hQ : M qa = some (306, .inr (0, 24, .inl Q))) (hQa : ∀ x, x < al → Q x = a x) {t : Nat} (ht : t < T) (h0 : 0 < al) (h24 : al ≤ 24) (hab : a (al - 1) ≠ nI 32) : CC G iX7_placeIn 0 0 [.ref m, .int (nI t)] M (fun r M1 => r = some (.int (oI (plc mo (ln t) (1 + cnB (fl t) (ln t)) (fl t) (iniF (fl t) (ln t)) a al))) ∧ M = M1) := by
  refine CC.of rfl (Nat.le_of_ble_eq_true rfl) rfl (fun X C Tr => ?_)
  show V X 0 0 0 [some (.ref m), some (.int (nI t)), none, none, none] [] M
  have hx8 := hx
  obtain ⟨hx0, hx1, hx2, hx3, hxq, hxt⟩ := hx
  have hT16 := hok.T16
  have hm4 := hok.m4
  have ho3 := hok.o3
  have hq24 := hok.q24
  have hsn24 := (hok.V t ht).sr (mo := mo)
  have hsnl := srN_le (mo := mo) (hok.V t ht)
  have hl24 := (hok.V t ht).2.1
  refine s_iconst C 1 (nI 0) dX7_placeIn_0 rfl (by decide) ?_
  refine s_istore_n C 2 dX7_placeIn_1 rfl rfl rfl ?_
  dsimp only [List.set]
  suffices lp2 : ∀ (fu2 : Nat) (s : Nat), srN mo (ln t) (fl t) + 2 - s < fu2 → s ≤ srN mo (ln t) (fl t) + 1 → plc mo (ln t) (1 + cnB (fl t) (ln t)) (fl t) (iniF (fl t) (ln t)) a al = fnd (fun s => pcB mo (ln t) (fl t) s al && mtB a (srG mo (ln t) (fl t)) al s) s (srN mo (ln t) (fl t) + 1 - al - s) → V X 0 0 2 [some (.ref m), some (.int (nI t)), some (.int (nI s)), none, none] [] M from lp2 (srN mo (ln t) (fl t) + 3) 0 (by omega) (by omega) (plc_pcB h0 hab)
  intro fu2
  induction fu2 with
  | zero => intro s hs0 hs1 hs; omega
  | succ fu2 ih2 =>
    intro s hs0 hs1 hs
    refine s_iload_n C 3 dX7_placeIn_2 rfl rfl ?_
    refine s_aload_n C 4 dX7_placeIn_3 rfl rfl ?_
    refine s_getf C 7 dX7_placeIn_4 rfl f_X7_72 hO rfl ?_
    refine s_iaddN C 8 dX7_placeIn_7 rfl ?_
    refine s_aload_n C 9 dX7_placeIn_8 rfl rfl ?_
    refine s_getf C 12 dX7_placeIn_9 rfl f_X7_22 hO rfl ?_
    refine s_iload_n C 13 dX7_placeIn_12 rfl rfl ?_
    refine s_iald C 14 dX7_placeIn_13 rfl hSn (by omega) (by omega) ?_
    rw [(hsr t (by omega)).1]
    refine s_icmp_gtN C 87 17 dX7_placeIn_14 (by decide) rfl (by omega) (by omega) (fun z14 => ?_) (fun z14 => ?_)
    · skip
      have hz : plc mo (ln t) (1 + cnB (fl t) (ln t)) (fl t) (iniF (fl t) (ln t)) a al = none := by rw [hs, show srN mo (ln t) (fl t) + 1 - al - s = 0 by omega]; rfl
      refine s_bipush C 89 (-6) dX7_placeIn_87 rfl (by decide) ?_
      exact s_iret C dX7_placeIn_89 Tr rfl ⟨by rw [hz]; rfl, rfl⟩
    · skip
      refine s_aload_n C 18 dX7_placeIn_17 rfl rfl ?_
      refine s_iload_n C 19 dX7_placeIn_18 rfl rfl ?_
      refine s_iload_n C 20 dX7_placeIn_19 rfl rfl ?_
      refine s_aload_n C 21 dX7_placeIn_20 rfl rfl ?_
      refine s_getf C 24 dX7_placeIn_21 rfl f_X7_72 hO rfl ?_
      refine s_invV C 27 0 0 [] (mRv_of hO rfl) dX7_placeIn_24 rfl m_X7_75 (n_isPiece hO hS hx8 hok hSo hSn hsr (t := t) (s := s) (l := al) ht h0 (by omega) (by omega)) rfl rfl rfl ⟨by decide, by decide⟩ (Nat.le_of_ble_eq_true rfl) (by omega) (by omega) ?_
      rintro _ M1 ⟨rfl, rfl⟩
      dsimp only [Option.toList, List.cons_append, List.nil_append]
      refine s_istore_n C 28 dX7_placeIn_27 rfl rfl rfl ?_
      dsimp only [List.set]
      refine s_iconst C 29 (nI 0) dX7_placeIn_28 rfl (by decide) ?_
      refine s_istore C 31 dX7_placeIn_29 rfl rfl rfl ?_
      dsimp only [List.set]
      suffices lp31 : ∀ (fu31 : Nat) (k : Nat) (b : Bool), al - k < fu31 → k ≤ al → b = (pcB mo (ln t) (fl t) s al && mtB a (srG mo (ln t) (fl t)) k s) → V X 0 0 31 [some (.ref m), some (.int (nI t)), some (.int (nI s)), some (.int (mB b)), some (.int (nI k))] [] M from lp31 (al + 1) 0 _ (by omega) (by omega) (by unfold mtB; simp)
      intro fu31
      induction fu31 with
      | zero => intro k b hk0 hk hb; omega
      | succ fu31 ih31 =>
        intro k b hk0 hk hb
        refine s_iload C 33 dX7_placeIn_31 rfl rfl ?_
        refine s_aload_n C 34 dX7_placeIn_33 rfl rfl ?_
        refine s_getf C 37 dX7_placeIn_34 rfl f_X7_72 hO rfl ?_
        refine s_icmp_geN C 75 40 dX7_placeIn_37 (by decide) rfl (by omega) (by omega) (fun z37 => ?_) (fun z37 => ?_)
        · skip
          have hke : k = al := by omega
          rw [hke] at hb
          refine s_iload_n C 76 dX7_placeIn_75 rfl rfl ?_
          refine s_if_eqB C 81 79 dX7_placeIn_76 (by decide) rfl (fun z76 => ?_) (fun z76 => ?_)
          · skip
            have hz : (fun s => pcB mo (ln t) (fl t) s al && mtB a (srG mo (ln t) (fl t)) al s) s = false := by show (pcB mo (ln t) (fl t) s al && mtB a (srG mo (ln t) (fl t)) al s) = false; rw [z76] at hb; cases hp : pcB mo (ln t) (fl t) s al with | false => rfl | true => rw [hp] at hb; rw [Bool.true_and]; rw [Bool.true_and] at hb; exact mtB_sub (by omega) hb.symm
            refine s_iinc C 84 (nI (s + 1)) dX7_placeIn_81 rfl rfl (by rw [← nI_add]; rfl) rfl ?_
            dsimp only [List.set]
            refine s_goto C 2 dX7_placeIn_84 (by decide) ?_
            refine V.drop 3 ?_
            dsimp only [List.set]
            refine V.drop 4 ?_
            dsimp only [List.set]
            exact ih2 (s + 1) (by omega) (by omega) (by rw [hs, fnd_step (by omega) hz]; rfl)
          · skip
            have hz : (fun s => pcB mo (ln t) (fl t) s al && mtB a (srG mo (ln t) (fl t)) al s) s = true := by show (pcB mo (ln t) (fl t) s al && mtB a (srG mo (ln t) (fl t)) al s) = true; rw [← hb]; exact z76
            refine s_iload_n C 80 dX7_placeIn_79 rfl rfl ?_
            exact s_iret C dX7_placeIn_80 Tr rfl ⟨by rw [hs, fnd_hit (by omega) hz]; rfl, rfl⟩
        · skip
          refine s_iload_n C 41 dX7_placeIn_40 rfl rfl ?_
          refine s_if_eqB C 75 44 dX7_placeIn_41 (by decide) rfl (fun z41 => ?_) (fun z41 => ?_)
          · skip
            refine s_iload_n C 76 dX7_placeIn_75 rfl rfl ?_
            refine s_if_eqB C 81 79 dX7_placeIn_76 (by decide) rfl (fun z76 => ?_) (fun z76 => ?_)
            · skip
              have hz : (fun s => pcB mo (ln t) (fl t) s al && mtB a (srG mo (ln t) (fl t)) al s) s = false := by show (pcB mo (ln t) (fl t) s al && mtB a (srG mo (ln t) (fl t)) al s) = false; rw [z76] at hb; cases hp : pcB mo (ln t) (fl t) s al with | false => rfl | true => rw [hp] at hb; rw [Bool.true_and]; rw [Bool.true_and] at hb; exact mtB_sub (by omega) hb.symm
              refine s_iinc C 84 (nI (s + 1)) dX7_placeIn_81 rfl rfl (by rw [← nI_add]; rfl) rfl ?_
              dsimp only [List.set]
              refine s_goto C 2 dX7_placeIn_84 (by decide) ?_
              refine V.drop 3 ?_
              dsimp only [List.set]
              refine V.drop 4 ?_
              dsimp only [List.set]
              exact ih2 (s + 1) (by omega) (by omega) (by rw [hs, fnd_step (by omega) hz]; rfl)
            · skip
              rw [z41] at z76; cases z76
          · skip
            refine s_aload_n C 45 dX7_placeIn_44 rfl rfl ?_
            refine s_iload_n C 46 dX7_placeIn_45 rfl rfl ?_
            refine s_iload_n C 47 dX7_placeIn_46 rfl rfl ?_
            refine s_iload C 49 dX7_placeIn_47 rfl rfl ?_
            refine s_iaddN C 50 dX7_placeIn_49 rfl ?_
            refine s_invV C 53 0 0 [] (mRv_of hO rfl) dX7_placeIn_50 rfl m_X7_66 (n_src hO hSo (t := t) (k := (s + k)) (by omega)) rfl rfl rfl ⟨by decide, by decide⟩ (Nat.le_of_ble_eq_true rfl) (by omega) (by omega) ?_
            rintro _ M2 ⟨rfl, rfl⟩
            dsimp only [Option.toList, List.cons_append, List.nil_append]
            rw [(hsr t (by omega)).2 (s + k) (by omega)]
            refine s_aload_n C 54 dX7_placeIn_53 rfl rfl ?_
            refine s_getf C 57 dX7_placeIn_54 rfl f_X7_25 hO rfl ?_
            refine s_iload C 59 dX7_placeIn_57 rfl rfl ?_
            refine s_iald C 60 dX7_placeIn_59 rfl hQ (by omega) (by omega) ?_
            refine s_icmp_ne C 67 63 dX7_placeIn_60 (by decide) rfl (fun z60 => ?_) (fun z60 => ?_)
            · skip
              have hb1 : false = (pcB mo (ln t) (fl t) s al && mtB a (srG mo (ln t) (fl t)) (k + 1) s) := by rw [mtB_step, ← Bool.and_assoc, ← hb, z41, decide_eq_false (by rw [← hQa k (by omega)]; exact z60)] <;> rfl
              refine s_iconst C 68 (nI 0) dX7_placeIn_67 rfl (by decide) ?_
              refine s_istore_n C 69 dX7_placeIn_68 rfl rfl rfl ?_
              dsimp only [List.set]
              refine s_iinc C 72 (nI (k + 1)) dX7_placeIn_69 rfl rfl (by rw [← nI_add]; rfl) rfl ?_
              dsimp only [List.set]
              refine s_goto C 31 dX7_placeIn_72 (by decide) ?_
              exact ih31 (k + 1) false (by omega) (by omega) hb1
            · skip
              have hb1 : true = (pcB mo (ln t) (fl t) s al && mtB a (srG mo (ln t) (fl t)) (k + 1) s) := by rw [mtB_step, ← Bool.and_assoc, ← hb, z41, decide_eq_true (by rw [← hQa k (by omega)]; exact z60)] <;> rfl
              refine s_iconst C 64 (nI 1) dX7_placeIn_63 rfl (by decide) ?_
              refine s_goto C 68 dX7_placeIn_64 (by decide) ?_
              refine s_istore_n C 69 dX7_placeIn_68 rfl rfl rfl ?_
              dsimp only [List.set]
              refine s_iinc C 72 (nI (k + 1)) dX7_placeIn_69 rfl rfl (by rw [← nI_add]; rfl) rfl ?_
              dsimp only [List.set]
              refine s_goto C 31 dX7_placeIn_72 (by decide) ?_
              exact ih31 (k + 1) true (by omega) (by omega) hb1

set_option maxRecDepth 100000 in
set_option maxHeartbeats 4000000 in
theorem n_byName {G : mG} {M : mM} {m sa ha c xa tl ra la qa al ka rm pa za wa ua ap nu be en : Nat} {fs fe cm : Int32} (hO : M m = some (300, .inl (8, nL sa ha c xa tl ra la qa al ka rm pa fs fe za wa ua ap cm nu be en))) {S : Nat → Int32} (hS : M sa = some (301, .inr (0, 444, .inl S))) {T mo od ql : Nat} {q : Nat → Int32} {ln : Nat → Nat} {fl : Nat → Nat → Int32} {us : Nat → Int32} (hx : SR S T mo od ql q ln fl us) (hok : okX T mo od ql q ln fl) {t u : Nat} (ht : t < T) (hu : u < T) (hne : t ≠ u) : CC G iX7_isAheadByName 0 0 [.ref m, .int (nI t), .int (nI u)] M (fun r M1 => r = some (.int (mB (nb (fl t) (fl u) (ln t) (ln u) 0 (ln t)))) ∧ M = M1) := by
  refine CC.of rfl (Nat.le_of_ble_eq_true rfl) rfl (fun X C Tr => ?_)
  show V X 0 0 0 [some (.ref m), some (.int (nI t)), some (.int (nI u)), none] [] M
  have hx8 := hx
  obtain ⟨hx0, hx1, hx2, hx3, hxq, hxt⟩ := hx
  have hT16 := hok.T16
  have hm4 := hok.m4
  have ho3 := hok.o3
  have hq24 := hok.q24
  have hl24 := (hok.V t ht).2.1
  have hu24 := (hok.V u hu).2.1
  refine s_iconst C 1 (nI 0) dX7_isAheadByName_0 rfl (by decide) ?_
  refine s_istore_n C 2 dX7_isAheadByName_1 rfl rfl rfl ?_
  dsimp only [List.set]
  suffices lp2 : ∀ (fu2 : Nat) (k : Nat), ln t - k < fu2 → k ≤ ln t → k ≤ ln u → nb (fl t) (fl u) (ln t) (ln u) 0 (ln t) = nb (fl t) (fl u) (ln t) (ln u) k (ln t - k) → (∀ x, x < k → fl t x = fl u x) → V X 0 0 2 [some (.ref m), some (.int (nI t)), some (.int (nI u)), some (.int (nI k))] [] M from lp2 (ln t + 1) 0 (by omega) (by omega) (by omega) rfl (fun x hx => by omega)
  intro fu2
  induction fu2 with
  | zero => intro k hk0 hk hku hkk hke; omega
  | succ fu2 ih2 =>
    intro k hk0 hk hku hkk hke
    refine s_iload_n C 3 dX7_isAheadByName_2 rfl rfl ?_
    refine s_aload_n C 4 dX7_isAheadByName_3 rfl rfl ?_
    refine s_iload_n C 5 dX7_isAheadByName_4 rfl rfl ?_
    refine s_invV C 8 0 0 [.int (nI k)] (mRv_of hO rfl) dX7_isAheadByName_5 rfl m_X7_58 (n_len hO hS hx8 (t := t) (by omega) hT16) rfl rfl rfl ⟨by decide, by decide⟩ (Nat.le_of_ble_eq_true rfl) (by omega) (by omega) ?_
    rintro _ M1 ⟨rfl, rfl⟩
    dsimp only [Option.toList, List.cons_append, List.nil_append]
    refine s_icmp_geN C 41 11 dX7_isAheadByName_8 (by decide) rfl (by omega) (by omega) (fun z8 => ?_) (fun z8 => ?_)
    · skip
      refine s_iload_n C 42 dX7_isAheadByName_41 rfl rfl ?_
      refine s_aload_n C 43 dX7_isAheadByName_42 rfl rfl ?_
      refine s_iload_n C 44 dX7_isAheadByName_43 rfl rfl ?_
      refine s_invV C 47 0 0 [.int (nI k)] (mRv_of hO rfl) dX7_isAheadByName_44 rfl m_X7_58 (n_len hO hS hx8 (t := t) (by omega) hT16) rfl rfl rfl ⟨by decide, by decide⟩ (Nat.le_of_ble_eq_true rfl) (by omega) (by omega) ?_
      rintro _ M2 ⟨rfl, rfl⟩
      dsimp only [Option.toList, List.cons_append, List.nil_append]
      refine s_icmp_eqN C 74 50 dX7_isAheadByName_47 (by decide) rfl (by omega) (by omega) (fun z47 => ?_) (fun z47 => ?_)
      · skip
        have hz : nb (fl t) (fl u) (ln t) (ln u) 0 (ln t) = true := by rw [hkk, nb_stop (by omega)]; refine decide_eq_true ?_; by_cases e : ln u = ln t; (· exact absurd (eqT_all (f := fl t) (g := fl u) (n := ln t) (m := ln u) (by omega) (fun x hx => hke x (by omega))) (by rw [hok.D t u ht hu hne]; decide)); omega
        refine s_iconst C 75 (nI 1) dX7_isAheadByName_74 rfl (by decide) ?_
        refine s_goto C 79 dX7_isAheadByName_75 (by decide) ?_
        exact s_zret C dX7_isAheadByName_79 Tr rfl (by decide) ⟨rT hz, rfl⟩
      · skip
        omega
    · skip
      refine s_iload_n C 12 dX7_isAheadByName_11 rfl rfl ?_
      refine s_aload_n C 13 dX7_isAheadByName_12 rfl rfl ?_
      refine s_iload_n C 14 dX7_isAheadByName_13 rfl rfl ?_
      refine s_invV C 17 0 0 [.int (nI k)] (mRv_of hO rfl) dX7_isAheadByName_14 rfl m_X7_58 (n_len hO hS hx8 (t := u) (by omega) hT16) rfl rfl rfl ⟨by decide, by decide⟩ (Nat.le_of_ble_eq_true rfl) (by omega) (by omega) ?_
      rintro _ M3 ⟨rfl, rfl⟩
      dsimp only [Option.toList, List.cons_append, List.nil_append]
      refine s_icmp_geN C 41 20 dX7_isAheadByName_17 (by decide) rfl (by omega) (by omega) (fun z17 => ?_) (fun z17 => ?_)
      · skip
        refine s_iload_n C 42 dX7_isAheadByName_41 rfl rfl ?_
        refine s_aload_n C 43 dX7_isAheadByName_42 rfl rfl ?_
        refine s_iload_n C 44 dX7_isAheadByName_43 rfl rfl ?_
        refine s_invV C 47 0 0 [.int (nI k)] (mRv_of hO rfl) dX7_isAheadByName_44 rfl m_X7_58 (n_len hO hS hx8 (t := t) (by omega) hT16) rfl rfl rfl ⟨by decide, by decide⟩ (Nat.le_of_ble_eq_true rfl) (by omega) (by omega) ?_
        rintro _ M4 ⟨rfl, rfl⟩
        dsimp only [Option.toList, List.cons_append, List.nil_append]
        refine s_icmp_eqN C 74 50 dX7_isAheadByName_47 (by decide) rfl (by omega) (by omega) (fun z47 => ?_) (fun z47 => ?_)
        · skip
          have hz : nb (fl t) (fl u) (ln t) (ln u) 0 (ln t) = true := by rw [hkk, nb_stop (by omega)]; refine decide_eq_true ?_; by_cases e : ln u = ln t; (· exact absurd (eqT_all (f := fl t) (g := fl u) (n := ln t) (m := ln u) (by omega) (fun x hx => hke x (by omega))) (by rw [hok.D t u ht hu hne]; decide)); omega
          refine s_iconst C 75 (nI 1) dX7_isAheadByName_74 rfl (by decide) ?_
          refine s_goto C 79 dX7_isAheadByName_75 (by decide) ?_
          exact s_zret C dX7_isAheadByName_79 Tr rfl (by decide) ⟨rT hz, rfl⟩
        · skip
          refine s_iload_n C 51 dX7_isAheadByName_50 rfl rfl ?_
          refine s_aload_n C 52 dX7_isAheadByName_51 rfl rfl ?_
          refine s_iload_n C 53 dX7_isAheadByName_52 rfl rfl ?_
          refine s_invV C 56 0 0 [.int (nI k)] (mRv_of hO rfl) dX7_isAheadByName_53 rfl m_X7_58 (n_len hO hS hx8 (t := u) (by omega) hT16) rfl rfl rfl ⟨by decide, by decide⟩ (Nat.le_of_ble_eq_true rfl) (by omega) (by omega) ?_
          rintro _ M5 ⟨rfl, rfl⟩
          dsimp only [Option.toList, List.cons_append, List.nil_append]
          refine s_icmp_geN C 78 59 dX7_isAheadByName_56 (by decide) rfl (by omega) (by omega) (fun z56 => ?_) (fun z56 => ?_)
          · skip
            have hz : nb (fl t) (fl u) (ln t) (ln u) 0 (ln t) = false := by rw [hkk, nb_stop (by omega)]; exact decide_eq_false (by omega)
            refine s_iconst C 79 (nI 0) dX7_isAheadByName_78 rfl (by decide) ?_
            exact s_zret C dX7_isAheadByName_79 Tr rfl (by decide) ⟨rF hz, rfl⟩
          · skip
            omega
      · skip
        refine s_aload_n C 21 dX7_isAheadByName_20 rfl rfl ?_
        refine s_iload_n C 22 dX7_isAheadByName_21 rfl rfl ?_
        refine s_iload_n C 23 dX7_isAheadByName_22 rfl rfl ?_
        refine s_invV C 26 0 0 [] (mRv_of hO rfl) dX7_isAheadByName_23 rfl m_X7_55 (n_char hO hS hx8 (t := t) (k := k) (by omega) hT16 (by omega) (hok.V _ (by omega)).2.1) rfl rfl rfl ⟨by decide, by decide⟩ (Nat.le_of_ble_eq_true rfl) (by omega) (by omega) ?_
        rintro _ M6 ⟨rfl, rfl⟩
        dsimp only [Option.toList, List.cons_append, List.nil_append]
        refine s_aload_n C 27 dX7_isAheadByName_26 rfl rfl ?_
        refine s_iload_n C 28 dX7_isAheadByName_27 rfl rfl ?_
        refine s_iload_n C 29 dX7_isAheadByName_28 rfl rfl ?_
        refine s_invV C 32 0 0 [.int (fl t k)] (mRv_of hO rfl) dX7_isAheadByName_29 rfl m_X7_55 (n_char hO hS hx8 (t := u) (k := k) (by omega) hT16 (by omega) (hok.V _ (by omega)).2.1) rfl rfl rfl ⟨by decide, by decide⟩ (Nat.le_of_ble_eq_true rfl) (by omega) (by omega) ?_
        rintro _ M7 ⟨rfl, rfl⟩
        dsimp only [Option.toList, List.cons_append, List.nil_append]
        refine s_icmp_ne C 41 35 dX7_isAheadByName_32 (by decide) rfl (fun z32 => ?_) (fun z32 => ?_)
        · skip
          refine s_iload_n C 42 dX7_isAheadByName_41 rfl rfl ?_
          refine s_aload_n C 43 dX7_isAheadByName_42 rfl rfl ?_
          refine s_iload_n C 44 dX7_isAheadByName_43 rfl rfl ?_
          refine s_invV C 47 0 0 [.int (nI k)] (mRv_of hO rfl) dX7_isAheadByName_44 rfl m_X7_58 (n_len hO hS hx8 (t := t) (by omega) hT16) rfl rfl rfl ⟨by decide, by decide⟩ (Nat.le_of_ble_eq_true rfl) (by omega) (by omega) ?_
          rintro _ M8 ⟨rfl, rfl⟩
          dsimp only [Option.toList, List.cons_append, List.nil_append]
          refine s_icmp_eqN C 74 50 dX7_isAheadByName_47 (by decide) rfl (by omega) (by omega) (fun z47 => ?_) (fun z47 => ?_)
          · skip
            have hz : nb (fl t) (fl u) (ln t) (ln u) 0 (ln t) = true := by rw [hkk, nb_stop (by omega)]; refine decide_eq_true ?_; by_cases e : ln u = ln t; (· exact absurd (eqT_all (f := fl t) (g := fl u) (n := ln t) (m := ln u) (by omega) (fun x hx => hke x (by omega))) (by rw [hok.D t u ht hu hne]; decide)); omega
            refine s_iconst C 75 (nI 1) dX7_isAheadByName_74 rfl (by decide) ?_
            refine s_goto C 79 dX7_isAheadByName_75 (by decide) ?_
            exact s_zret C dX7_isAheadByName_79 Tr rfl (by decide) ⟨rT hz, rfl⟩
          · skip
            refine s_iload_n C 51 dX7_isAheadByName_50 rfl rfl ?_
            refine s_aload_n C 52 dX7_isAheadByName_51 rfl rfl ?_
            refine s_iload_n C 53 dX7_isAheadByName_52 rfl rfl ?_
            refine s_invV C 56 0 0 [.int (nI k)] (mRv_of hO rfl) dX7_isAheadByName_53 rfl m_X7_58 (n_len hO hS hx8 (t := u) (by omega) hT16) rfl rfl rfl ⟨by decide, by decide⟩ (Nat.le_of_ble_eq_true rfl) (by omega) (by omega) ?_
            rintro _ M9 ⟨rfl, rfl⟩
            dsimp only [Option.toList, List.cons_append, List.nil_append]
            refine s_icmp_geN C 78 59 dX7_isAheadByName_56 (by decide) rfl (by omega) (by omega) (fun z56 => ?_) (fun z56 => ?_)
            · skip
              have hz : nb (fl t) (fl u) (ln t) (ln u) 0 (ln t) = false := by rw [hkk, nb_stop (by omega)]; exact decide_eq_false (by omega)
              refine s_iconst C 79 (nI 0) dX7_isAheadByName_78 rfl (by decide) ?_
              exact s_zret C dX7_isAheadByName_79 Tr rfl (by decide) ⟨rF hz, rfl⟩
            · skip
              refine s_aload_n C 60 dX7_isAheadByName_59 rfl rfl ?_
              refine s_iload_n C 61 dX7_isAheadByName_60 rfl rfl ?_
              refine s_iload_n C 62 dX7_isAheadByName_61 rfl rfl ?_
              refine s_invV C 65 0 0 [] (mRv_of hO rfl) dX7_isAheadByName_62 rfl m_X7_55 (n_char hO hS hx8 (t := t) (k := k) (by omega) hT16 (by omega) (hok.V _ (by omega)).2.1) rfl rfl rfl ⟨by decide, by decide⟩ (Nat.le_of_ble_eq_true rfl) (by omega) (by omega) ?_
              rintro _ M10 ⟨rfl, rfl⟩
              dsimp only [Option.toList, List.cons_append, List.nil_append]
              refine s_aload_n C 66 dX7_isAheadByName_65 rfl rfl ?_
              refine s_iload_n C 67 dX7_isAheadByName_66 rfl rfl ?_
              refine s_iload_n C 68 dX7_isAheadByName_67 rfl rfl ?_
              refine s_invV C 71 0 0 [.int (fl t k)] (mRv_of hO rfl) dX7_isAheadByName_68 rfl m_X7_55 (n_char hO hS hx8 (t := u) (k := k) (by omega) hT16 (by omega) (hok.V _ (by omega)).2.1) rfl rfl rfl ⟨by decide, by decide⟩ (Nat.le_of_ble_eq_true rfl) (by omega) (by omega) ?_
              rintro _ M11 ⟨rfl, rfl⟩
              dsimp only [Option.toList, List.cons_append, List.nil_append]
              refine s_icmp_ge C 78 74 dX7_isAheadByName_71 (by decide) rfl (fun z71 => ?_) (fun z71 => ?_)
              · skip
                have hz : nb (fl t) (fl u) (ln t) (ln u) 0 (ln t) = false := by rw [hkk, nb_ne (by omega) (by omega) (by omega) (fun e => z32 e)]; exact decide_eq_false (i32_le.mp z71)
                refine s_iconst C 79 (nI 0) dX7_isAheadByName_78 rfl (by decide) ?_
                exact s_zret C dX7_isAheadByName_79 Tr rfl (by decide) ⟨rF hz, rfl⟩
              · skip
                have hz : nb (fl t) (fl u) (ln t) (ln u) 0 (ln t) = true := by rw [hkk, nb_ne (by omega) (by omega) (by omega) (fun e => z32 e)]; exact decide_eq_true (i32_nle.mp z71)
                refine s_iconst C 75 (nI 1) dX7_isAheadByName_74 rfl (by decide) ?_
                refine s_goto C 79 dX7_isAheadByName_75 (by decide) ?_
                exact s_zret C dX7_isAheadByName_79 Tr rfl (by decide) ⟨rT hz, rfl⟩
        · skip
          refine s_iinc C 38 (nI (k + 1)) dX7_isAheadByName_35 rfl rfl (by rw [← nI_add]; rfl) rfl ?_
          dsimp only [List.set]
          refine s_goto C 2 dX7_isAheadByName_38 (by decide) ?_
          exact ih2 (k + 1) (by omega) (by omega) (by omega) (by rw [hkk, nb_eq (by omega) (by omega) (by omega) z32, show ln t - k - 1 = ln t - (k + 1) by omega]) (fun x hx => by by_cases e : x = k; (· rw [e]; exact z32); exact hke x (by omega))

set_option maxRecDepth 100000 in
set_option maxHeartbeats 4000000 in
theorem n_byPlace {G : mG} {M : mM} {m sa ha c xa tl ra la qa al ka rm pa za wa ua ap nu be en : Nat} {fs fe cm : Int32} (hO : M m = some (300, .inl (8, nL sa ha c xa tl ra la qa al ka rm pa fs fe za wa ua ap cm nu be en))) {S : Nat → Int32} (hS : M sa = some (301, .inr (0, 444, .inl S))) {T mo od ql : Nat} {q : Nat → Int32} {ln : Nat → Nat} {fl : Nat → Nat → Int32} {us : Nat → Int32} (hx : SR S T mo od ql q ln fl us) (hok : okX T mo od ql q ln fl) {P : Nat → Int32} (hP : M pa = some (308, .inr (0, 16, .inl P))) {t u pt pu : Nat} (ht : t < T) (hu : u < T) (hpt : P t = nI pt) (hpu : P u = nI pu) (hb1 : pt < 1000) (hb2 : pu < 1000) : CC G iX7_isAheadByPlace 0 0 [.ref m, .int (nI t), .int (nI u)] M (fun r M1 => r = some (.int (mB (if pt ≠ pu then decide (pt < pu) else if ln t ≠ ln u then decide (ln t < ln u) else decide (t < u)))) ∧ M = M1) := by
  refine CC.of rfl (Nat.le_of_ble_eq_true rfl) rfl (fun X C Tr => ?_)
  show V X 0 0 0 [some (.ref m), some (.int (nI t)), some (.int (nI u))] [] M
  have hx8 := hx
  obtain ⟨hx0, hx1, hx2, hx3, hxq, hxt⟩ := hx
  have hT16 := hok.T16
  have hm4 := hok.m4
  have ho3 := hok.o3
  have hq24 := hok.q24
  have hl24 := (hok.V t ht).2.1
  have hu24 := (hok.V u hu).2.1
  refine s_aload_n C 1 dX7_isAheadByPlace_0 rfl rfl ?_
  refine s_getf C 4 dX7_isAheadByPlace_1 rfl f_X7_31 hO rfl ?_
  refine s_iload_n C 5 dX7_isAheadByPlace_4 rfl rfl ?_
  refine s_iald C 6 dX7_isAheadByPlace_5 rfl hP (by omega) (by omega) ?_
  rw [hpt]
  refine s_aload_n C 7 dX7_isAheadByPlace_6 rfl rfl ?_
  refine s_getf C 10 dX7_isAheadByPlace_7 rfl f_X7_31 hO rfl ?_
  refine s_iload_n C 11 dX7_isAheadByPlace_10 rfl rfl ?_
  refine s_iald C 12 dX7_isAheadByPlace_11 rfl hP (by omega) (by omega) ?_
  rw [hpu]
  refine s_icmp_eqN C 36 15 dX7_isAheadByPlace_12 (by decide) rfl (by omega) (by omega) (fun z12 => ?_) (fun z12 => ?_)
  · skip
    refine s_aload_n C 37 dX7_isAheadByPlace_36 rfl rfl ?_
    refine s_iload_n C 38 dX7_isAheadByPlace_37 rfl rfl ?_
    refine s_invV C 41 0 0 [] (mRv_of hO rfl) dX7_isAheadByPlace_38 rfl m_X7_58 (n_len hO hS hx8 (t := t) (by omega) hT16) rfl rfl rfl ⟨by decide, by decide⟩ (Nat.le_of_ble_eq_true rfl) (by omega) (by omega) ?_
    rintro _ M1 ⟨rfl, rfl⟩
    dsimp only [Option.toList, List.cons_append, List.nil_append]
    refine s_aload_n C 42 dX7_isAheadByPlace_41 rfl rfl ?_
    refine s_iload_n C 43 dX7_isAheadByPlace_42 rfl rfl ?_
    refine s_invV C 46 0 0 [.int (nI (ln t))] (mRv_of hO rfl) dX7_isAheadByPlace_43 rfl m_X7_58 (n_len hO hS hx8 (t := u) (by omega) hT16) rfl rfl rfl ⟨by decide, by decide⟩ (Nat.le_of_ble_eq_true rfl) (by omega) (by omega) ?_
    rintro _ M2 ⟨rfl, rfl⟩
    dsimp only [Option.toList, List.cons_append, List.nil_append]
    refine s_icmp_eqN C 70 49 dX7_isAheadByPlace_46 (by decide) rfl (by omega) (by omega) (fun z46 => ?_) (fun z46 => ?_)
    · skip
      refine s_iload_n C 71 dX7_isAheadByPlace_70 rfl rfl ?_
      refine s_iload_n C 72 dX7_isAheadByPlace_71 rfl rfl ?_
      refine s_icmp_geN C 79 75 dX7_isAheadByPlace_72 (by decide) rfl (by omega) (by omega) (fun z72 => ?_) (fun z72 => ?_)
      · skip
        refine s_iconst C 80 (nI 0) dX7_isAheadByPlace_79 rfl (by decide) ?_
        exact s_zret C dX7_isAheadByPlace_80 Tr rfl (by decide) ⟨rF (pl_f (by omega)), rfl⟩
      · skip
        refine s_iconst C 76 (nI 1) dX7_isAheadByPlace_75 rfl (by decide) ?_
        refine s_goto C 80 dX7_isAheadByPlace_76 (by decide) ?_
        exact s_zret C dX7_isAheadByPlace_80 Tr rfl (by decide) ⟨rT (pl_t (by omega)), rfl⟩
    · skip
      refine s_aload_n C 50 dX7_isAheadByPlace_49 rfl rfl ?_
      refine s_iload_n C 51 dX7_isAheadByPlace_50 rfl rfl ?_
      refine s_invV C 54 0 0 [] (mRv_of hO rfl) dX7_isAheadByPlace_51 rfl m_X7_58 (n_len hO hS hx8 (t := t) (by omega) hT16) rfl rfl rfl ⟨by decide, by decide⟩ (Nat.le_of_ble_eq_true rfl) (by omega) (by omega) ?_
      rintro _ M3 ⟨rfl, rfl⟩
      dsimp only [Option.toList, List.cons_append, List.nil_append]
      refine s_aload_n C 55 dX7_isAheadByPlace_54 rfl rfl ?_
      refine s_iload_n C 56 dX7_isAheadByPlace_55 rfl rfl ?_
      refine s_invV C 59 0 0 [.int (nI (ln t))] (mRv_of hO rfl) dX7_isAheadByPlace_56 rfl m_X7_58 (n_len hO hS hx8 (t := u) (by omega) hT16) rfl rfl rfl ⟨by decide, by decide⟩ (Nat.le_of_ble_eq_true rfl) (by omega) (by omega) ?_
      rintro _ M4 ⟨rfl, rfl⟩
      dsimp only [Option.toList, List.cons_append, List.nil_append]
      refine s_icmp_geN C 66 62 dX7_isAheadByPlace_59 (by decide) rfl (by omega) (by omega) (fun z59 => ?_) (fun z59 => ?_)
      · skip
        refine s_iconst C 67 (nI 0) dX7_isAheadByPlace_66 rfl (by decide) ?_
        refine s_goto C 80 dX7_isAheadByPlace_67 (by decide) ?_
        exact s_zret C dX7_isAheadByPlace_80 Tr rfl (by decide) ⟨rF (pl_f (by omega)), rfl⟩
      · skip
        refine s_iconst C 63 (nI 1) dX7_isAheadByPlace_62 rfl (by decide) ?_
        refine s_goto C 80 dX7_isAheadByPlace_63 (by decide) ?_
        exact s_zret C dX7_isAheadByPlace_80 Tr rfl (by decide) ⟨rT (pl_t (by omega)), rfl⟩
  · skip
    refine s_aload_n C 16 dX7_isAheadByPlace_15 rfl rfl ?_
    refine s_getf C 19 dX7_isAheadByPlace_16 rfl f_X7_31 hO rfl ?_
    refine s_iload_n C 20 dX7_isAheadByPlace_19 rfl rfl ?_
    refine s_iald C 21 dX7_isAheadByPlace_20 rfl hP (by omega) (by omega) ?_
    rw [hpt]
    refine s_aload_n C 22 dX7_isAheadByPlace_21 rfl rfl ?_
    refine s_getf C 25 dX7_isAheadByPlace_22 rfl f_X7_31 hO rfl ?_
    refine s_iload_n C 26 dX7_isAheadByPlace_25 rfl rfl ?_
    refine s_iald C 27 dX7_isAheadByPlace_26 rfl hP (by omega) (by omega) ?_
    rw [hpu]
    refine s_icmp_geN C 34 30 dX7_isAheadByPlace_27 (by decide) rfl (by omega) (by omega) (fun z27 => ?_) (fun z27 => ?_)
    · skip
      refine s_iconst C 35 (nI 0) dX7_isAheadByPlace_34 rfl (by decide) ?_
      exact s_zret C dX7_isAheadByPlace_35 Tr rfl (by decide) ⟨rF (pl_f (by omega)), rfl⟩
    · skip
      refine s_iconst C 31 (nI 1) dX7_isAheadByPlace_30 rfl (by decide) ?_
      refine s_goto C 35 dX7_isAheadByPlace_31 (by decide) ?_
      exact s_zret C dX7_isAheadByPlace_35 Tr rfl (by decide) ⟨rT (pl_t (by omega)), rfl⟩

set_option maxRecDepth 100000 in
set_option maxHeartbeats 4000000 in
theorem n_ahead {G : mG} {M : mM} {m sa ha c xa tl ra la qa al ka rm pa za wa ua ap nu be en : Nat} {fs fe cm : Int32} (hO : M m = some (300, .inl (8, nL sa ha c xa tl ra la qa al ka rm pa fs fe za wa ua ap cm nu be en))) {S : Nat → Int32} (hS : M sa = some (301, .inr (0, 444, .inl S))) {T mo od ql : Nat} {q : Nat → Int32} {ln : Nat → Nat} {fl : Nat → Nat → Int32} {us : Nat → Int32} (hx : SR S T mo od ql q ln fl us) (hok : okX T mo od ql q ln fl) {P : Nat → Int32} (hP : M pa = some (308, .inr (0, 16, .inl P))) {t u pt pu : Nat} (ht : t < T) (hu : u < T) (hne : t ≠ u) (hpt : P t = nI pt) (hpu : P u = nI pu) (hb1 : pt < 1000) (hb2 : pu < 1000) : CC G iX7_isAhead 0 0 [.ref m, .int (nI t), .int (nI u)] M (fun r M1 => r = some (.int (mB (cbB od t pt u pu ln fl us))) ∧ M = M1) := by
  refine CC.of rfl (Nat.le_of_ble_eq_true rfl) rfl (fun X C Tr => ?_)
  show V X 0 0 0 [some (.ref m), some (.int (nI t)), some (.int (nI u))] [] M
  have hx8 := hx
  obtain ⟨hx0, hx1, hx2, hx3, hxq, hxt⟩ := hx
  have hT16 := hok.T16
  have hm4 := hok.m4
  have ho3 := hok.o3
  have hq24 := hok.q24
  refine s_aload_n C 1 dX7_isAhead_0 rfl rfl ?_
  refine s_getf C 4 dX7_isAhead_1 rfl f_X7_7 hO rfl ?_
  refine s_iconst C 5 (nI 2) dX7_isAhead_4 rfl (by decide) ?_
  refine s_iald C 6 dX7_isAhead_5 rfl hS (by omega) (by omega) ?_
  rw [hx2]
  refine s_iconst C 7 (nI 2) dX7_isAhead_6 rfl (by decide) ?_
  refine s_icmp_neN C 17 10 dX7_isAhead_7 (by decide) rfl (by omega) (by omega) (fun z7 => ?_) (fun z7 => ?_)
  · skip
    refine s_aload_n C 18 dX7_isAhead_17 rfl rfl ?_
    refine s_getf C 21 dX7_isAhead_18 rfl f_X7_7 hO rfl ?_
    refine s_iconst C 22 (nI 2) dX7_isAhead_21 rfl (by decide) ?_
    refine s_iald C 23 dX7_isAhead_22 rfl hS (by omega) (by omega) ?_
    rw [hx2]
    refine s_iconst C 24 (nI 1) dX7_isAhead_23 rfl (by decide) ?_
    refine s_icmp_neN C 65 27 dX7_isAhead_24 (by decide) rfl (by omega) (by omega) (fun z24 => ?_) (fun z24 => ?_)
    · skip
      refine s_aload_n C 66 dX7_isAhead_65 rfl rfl ?_
      refine s_iload_n C 67 dX7_isAhead_66 rfl rfl ?_
      refine s_iload_n C 68 dX7_isAhead_67 rfl rfl ?_
      refine s_invV C 71 0 0 [] (mRv_of hO rfl) dX7_isAhead_68 rfl m_X7_81 (n_byPlace hO hS hx8 hok hP ht hu hpt hpu hb1 hb2) rfl rfl rfl ⟨by decide, by decide⟩ (Nat.le_of_ble_eq_true rfl) (by omega) (by omega) ?_
      rintro _ M1 ⟨rfl, rfl⟩
      dsimp only [Option.toList, List.cons_append, List.nil_append]
      exact s_zret C dX7_isAhead_71 Tr rfl (mB_z _) ⟨by unfold cbB; rw [if_neg z7, if_neg (show ¬ (od = 1 ∧ us t ≠ us u) by first | exact fun w => z24 w.1 | exact fun w => w.2 z39)], rfl⟩
    · skip
      refine s_aload_n C 28 dX7_isAhead_27 rfl rfl ?_
      refine s_iload_n C 29 dX7_isAhead_28 rfl rfl ?_
      refine s_iconst C 30 (nI 1) dX7_isAhead_29 rfl (by decide) ?_
      refine s_invV C 33 0 0 [] (mRv_of hO rfl) dX7_isAhead_30 rfl m_X7_51 (n_part hO hS (t := t) (k := 1) (by omega)) rfl rfl rfl ⟨by decide, by decide⟩ (Nat.le_of_ble_eq_true rfl) (by omega) (by omega) ?_
      rintro _ M2 ⟨rfl, rfl⟩
      dsimp only [Option.toList, List.cons_append, List.nil_append]
      rw [show 28 + 26 * t + 1 = 29 + 26 * t by omega, (hxt t (by omega)).2.1]
      refine s_aload_n C 34 dX7_isAhead_33 rfl rfl ?_
      refine s_iload_n C 35 dX7_isAhead_34 rfl rfl ?_
      refine s_iconst C 36 (nI 1) dX7_isAhead_35 rfl (by decide) ?_
      refine s_invV C 39 0 0 [.int (us t)] (mRv_of hO rfl) dX7_isAhead_36 rfl m_X7_51 (n_part hO hS (t := u) (k := 1) (by omega)) rfl rfl rfl ⟨by decide, by decide⟩ (Nat.le_of_ble_eq_true rfl) (by omega) (by omega) ?_
      rintro _ M3 ⟨rfl, rfl⟩
      dsimp only [Option.toList, List.cons_append, List.nil_append]
      rw [show 28 + 26 * u + 1 = 29 + 26 * u by omega, (hxt u (by omega)).2.1]
      refine s_icmp_eq C 65 42 dX7_isAhead_39 (by decide) rfl (fun z39 => ?_) (fun z39 => ?_)
      · skip
        refine s_aload_n C 66 dX7_isAhead_65 rfl rfl ?_
        refine s_iload_n C 67 dX7_isAhead_66 rfl rfl ?_
        refine s_iload_n C 68 dX7_isAhead_67 rfl rfl ?_
        refine s_invV C 71 0 0 [] (mRv_of hO rfl) dX7_isAhead_68 rfl m_X7_81 (n_byPlace hO hS hx8 hok hP ht hu hpt hpu hb1 hb2) rfl rfl rfl ⟨by decide, by decide⟩ (Nat.le_of_ble_eq_true rfl) (by omega) (by omega) ?_
        rintro _ M4 ⟨rfl, rfl⟩
        dsimp only [Option.toList, List.cons_append, List.nil_append]
        exact s_zret C dX7_isAhead_71 Tr rfl (mB_z _) ⟨by unfold cbB; rw [if_neg z7, if_neg (show ¬ (od = 1 ∧ us t ≠ us u) by first | exact fun w => z24 w.1 | exact fun w => w.2 z39)], rfl⟩
      · skip
        refine s_aload_n C 43 dX7_isAhead_42 rfl rfl ?_
        refine s_iload_n C 44 dX7_isAhead_43 rfl rfl ?_
        refine s_iconst C 45 (nI 1) dX7_isAhead_44 rfl (by decide) ?_
        refine s_invV C 48 0 0 [] (mRv_of hO rfl) dX7_isAhead_45 rfl m_X7_51 (n_part hO hS (t := t) (k := 1) (by omega)) rfl rfl rfl ⟨by decide, by decide⟩ (Nat.le_of_ble_eq_true rfl) (by omega) (by omega) ?_
        rintro _ M5 ⟨rfl, rfl⟩
        dsimp only [Option.toList, List.cons_append, List.nil_append]
        rw [show 28 + 26 * t + 1 = 29 + 26 * t by omega, (hxt t (by omega)).2.1]
        refine s_aload_n C 49 dX7_isAhead_48 rfl rfl ?_
        refine s_iload_n C 50 dX7_isAhead_49 rfl rfl ?_
        refine s_iconst C 51 (nI 1) dX7_isAhead_50 rfl (by decide) ?_
        refine s_invV C 54 0 0 [.int (us t)] (mRv_of hO rfl) dX7_isAhead_51 rfl m_X7_51 (n_part hO hS (t := u) (k := 1) (by omega)) rfl rfl rfl ⟨by decide, by decide⟩ (Nat.le_of_ble_eq_true rfl) (by omega) (by omega) ?_
        rintro _ M6 ⟨rfl, rfl⟩
        dsimp only [Option.toList, List.cons_append, List.nil_append]
        rw [show 28 + 26 * u + 1 = 29 + 26 * u by omega, (hxt u (by omega)).2.1]
        refine s_icmp_le C 61 57 dX7_isAhead_54 (by decide) rfl (fun z54 => ?_) (fun z54 => ?_)
        · skip
          refine s_iconst C 62 (nI 0) dX7_isAhead_61 rfl (by decide) ?_
          refine s_goto C 71 dX7_isAhead_62 (by decide) ?_
          exact s_zret C dX7_isAhead_71 Tr rfl (by decide) ⟨rF (by unfold cbB; rw [if_neg z7, if_pos ⟨z24, z39⟩]; first | exact decide_eq_true (i32_nle.mp z54) | exact decide_eq_false (i32_le.mp z54)), rfl⟩
        · skip
          refine s_iconst C 58 (nI 1) dX7_isAhead_57 rfl (by decide) ?_
          refine s_goto C 71 dX7_isAhead_58 (by decide) ?_
          exact s_zret C dX7_isAhead_71 Tr rfl (by decide) ⟨rT (by unfold cbB; rw [if_neg z7, if_pos ⟨z24, z39⟩]; first | exact decide_eq_true (i32_nle.mp z54) | exact decide_eq_false (i32_le.mp z54)), rfl⟩
  · skip
    refine s_aload_n C 11 dX7_isAhead_10 rfl rfl ?_
    refine s_iload_n C 12 dX7_isAhead_11 rfl rfl ?_
    refine s_iload_n C 13 dX7_isAhead_12 rfl rfl ?_
    refine s_invV C 16 0 0 [] (mRv_of hO rfl) dX7_isAhead_13 rfl m_X7_78 (n_byName hO hS hx8 hok ht hu hne) rfl rfl rfl ⟨by decide, by decide⟩ (Nat.le_of_ble_eq_true rfl) (by omega) (by omega) ?_
    rintro _ M7 ⟨rfl, rfl⟩
    dsimp only [Option.toList, List.cons_append, List.nil_append]
    exact s_zret C dX7_isAhead_16 Tr rfl (mB_z _) ⟨by unfold cbB; rw [if_pos z7], rfl⟩
