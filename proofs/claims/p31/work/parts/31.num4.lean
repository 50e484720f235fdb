/-! counting: which result stands at a rank -/
theorem oJ_s {o : Option Nat} {p : Nat} (h : o = some p) : oJ o = nI p := by rw [h]; rfl
theorem oJ_lt {o : Option Nat} (h : ∀ j, o = some j → j < 26) : oJ o < 0 ↔ o = none := by
  cases o with
  | none => exact ⟨fun _ => rfl, fun _ => by decide⟩
  | some j =>
    refine ⟨fun q => ?_, fun q => by cases q⟩
    have := h j rfl
    exact absurd q (nI_pos (by omega))
theorem oJ_ge {o : Option Nat} (h : ∀ j, o = some j → j < 26) : 0 ≤ oJ o ↔ o ≠ none := by
  rw [show (0 ≤ oJ o) ↔ ¬ oJ o < 0 from i32_le, oJ_lt h]
def cntP (P : Nat → Bool) : Nat → Nat
  | 0 => 0
  | k + 1 => cntP P k + (if P k = true then 1 else 0)
theorem cntP_le {P : Nat → Bool} : ∀ k, cntP P k ≤ k
  | 0 => Nat.le_refl _
  | k + 1 => by have := cntP_le (P := P) k; rw [cntP]; split <;> omega
theorem cntP_cong {P Q : Nat → Bool} : ∀ k, (∀ j, j < k → P j = Q j) → cntP P k = cntP Q k := by
  intro k
  induction k with
  | zero => intro _; rfl
  | succ k ih => intro h; rw [cntP, cntP, ih (fun j hj => h j (by omega)), h k (Nat.lt_succ_self _)]
theorem cntP_0 {P : Nat → Bool} : ∀ k, (∀ j, j < k → P j = false) → cntP P k = 0 := by
  intro k
  induction k with
  | zero => intro _; rfl
  | succ k ih => intro h; rw [cntP, ih (fun j hj => h j (by omega)), h k (Nat.lt_succ_self _)]; rfl
/-- true below p, not from there on -/
theorem cntP_p {P : Nat → Bool} {p : Nat} : ∀ k, p ≤ k → (∀ j, j < p → P j = true) → (∀ j, p ≤ j → j < k → P j = false) → cntP P k = p := by
  intro k
  induction k with
  | zero => intro h _ _; rw [cntP]; omega
  | succ k ih =>
    intro h h1 h2
    rw [cntP]
    by_cases e : p = k + 1
    · rw [if_pos (h1 k (by omega))]
      have : cntP P k = k := by
        clear ih h2
        have : ∀ m, m ≤ k → cntP P m = m := by
          intro m
          induction m with
          | zero => intro _; rfl
          | succ m im => intro hm; rw [cntP, im (by omega), if_pos (h1 m (by omega))]
        exact this k (Nat.le_refl _)
      omega
    · rw [ih (by omega) h1 (fun j g1 g2 => h2 j g1 (by omega)), h2 k (by omega) (Nat.lt_succ_self _)]
      rfl
/-- what is counted over an inserted row -/
theorem cntP_ins {P : Nat → Bool} {r : Nat → Nat} {x p : Nat} : ∀ c, p ≤ c → cntP (fun j => P (insR r p x j)) (c + 1) = cntP (fun j => P (r j)) c + (if P x = true then 1 else 0) := by
  intro c
  induction c with
  | zero =>
    intro h
    have : p = 0 := by omega
    subst this
    simp [cntP, insR]
  | succ c ih =>
    intro h
    by_cases e : p = c + 1
    · subst e
      rw [cntP, cntP_cong (Q := fun j => P (r j)) (c + 1) (fun j hj => by simp [insR, hj])]
      simp [insR]
    · rw [cntP, ih (by omega), cntP]
      have : insR r p x (c + 1) = r c := by unfold insR; rw [if_neg (by omega), if_neg (by omega)]; rfl
      simp only [this]
      omega
/-- all of what is found, counted in the rows' order -/
theorem rk_cnt {B : Nat → Nat → Bool} {pm : Nat → Option Nat} {P : Nat → Bool} : ∀ t, cntP (fun w => (pm w).isSome && P w) t = cntP (fun j => P ((rkS B pm t).2 j)) (rkS B pm t).1 := by
  intro t
  induction t with
  | zero => rfl
  | succ t ih =>
    rw [cntP, ih, rkS]
    cases h : (pm t).isSome with
    | true =>
      rw [if_pos rfl, cntP_ins _ (insK_le _)]
      simp
    | false =>
      simp
theorem insK_t2 {B : Nat → Bool} {r : Nat → Nat} : ∀ k j, insK B r k ≤ j → j < k → B (r j) = true := by
  intro k
  induction k with
  | zero => intro j _ h; omega
  | succ k ih =>
    intro j h1 h2
    rw [insK] at h1
    split at h1
    · rename_i hb
      by_cases e : j = k
      · rw [e]; exact hb
      · exact ih j h1 (by omega)
    · omega
theorem insK_f2 {B : Nat → Bool} {r : Nat → Nat} : ∀ k, 0 < insK B r k → B (r (insK B r k - 1)) = false := by
  intro k
  induction k with
  | zero => intro h; exact absurd h (Nat.lt_irrefl _)
  | succ k ih =>
    rw [insK]
    split
    · exact ih
    · rename_i hb
      intro _
      rw [show k + 1 - 1 = k from rfl]
      simpa using hb
/-- the results stand in their order; how many are ahead of one is its rank -/
theorem rk_sort {B : Nat → Nat → Bool} {pm : Nat → Option Nat} {T : Nat} (hf : ∀ x y, x < T → y < T → x ≠ y → B x y = !(B y x)) (ht : ∀ x y z, x < T → y < T → z < T → B x y = true → B y z = true → x ≠ z → B x z = true) : ∀ t, t ≤ T → ∀ i j, i < j → j < (rkS B pm t).1 → B ((rkS B pm t).2 i) ((rkS B pm t).2 j) = true ∧ (rkS B pm t).2 i ≠ (rkS B pm t).2 j := by
  intro t
  induction t with
  | zero => intro _ i j _ h; exact absurd h (Nat.not_lt_zero _)
  | succ t ih =>
    intro hT i j hij hj
    have ih := ih (by omega)
    have hin := (rkS_in (B := B) (pm := pm) t).2
    have hp := insK_le (B := B t) (r := (rkS B pm t).2) (rkS B pm t).1
    have h1 := insK_t2 (B := B t) (r := (rkS B pm t).2) (rkS B pm t).1
    have h2 := insK_f2 (B := B t) (r := (rkS B pm t).2) (rkS B pm t).1
    rw [rkS] at hj ⊢
    by_cases hs : (pm t).isSome = true
    · rw [if_pos hs] at hj ⊢
      have hj : j < (rkS B pm t).1 + 1 := hj
      show B (insR _ _ t i) (insR _ _ t j) = true ∧ insR _ _ t i ≠ insR _ _ t j
      generalize hP : insK (B t) (rkS B pm t).2 (rkS B pm t).1 = p at hp h1 h2
      generalize hR : (rkS B pm t).2 = r at *
      generalize hC : (rkS B pm t).1 = c at *
      -- below p nothing is behind t
      have h3 : ∀ k, k < p → B t (r k) = false := by
        intro k hk
        by_cases e : k = p - 1
        · rw [e]; exact h2 (by omega)
        · cases q : B t (r k) with
          | false => rfl
          | true =>
            have a1 := ih k (p - 1) (by omega) (by omega)
            have a2 := (hin k (by omega)).1
            have a3 := (hin (p - 1) (by omega)).1
            have := ht t (r k) (r (p - 1)) (by omega) (by omega) (by omega) q a1.1 (by omega)
            rw [h2 (by omega)] at this
            cases this
      have h4 : ∀ k, k < p → B (r k) t = true := fun k hk => by
        have a2 := (hin k (by omega)).1
        rw [hf _ _ (by omega) (by omega) (by omega), h3 k hk]; rfl
      unfold insR
      by_cases e1 : j < p
      · rw [if_pos (show i < p by omega), if_pos e1]
        exact ih i j hij (by omega)
      · by_cases e2 : j = p
        · rw [if_pos (show i < p by omega), if_neg e1, if_pos e2]
          have a2 := (hin i (by omega)).1
          exact ⟨h4 i (by omega), by omega⟩
        · rw [if_neg e1, if_neg e2]
          have a3 := (hin (j - 1) (by omega)).1
          by_cases e3 : i < p
          · rw [if_pos e3]
            exact ih i (j - 1) (by omega) (by omega)
          · by_cases e4 : i = p
            · rw [if_neg e3, if_pos e4]
              exact ⟨h1 (j - 1) (by omega) (by omega), by omega⟩
            · rw [if_neg e3, if_neg e4]
              exact ih (i - 1) (j - 1) (by omega) (by omega)
    · rw [if_neg hs] at hj ⊢
      exact ih i j hij hj
theorem rk_rank {B : Nat → Nat → Bool} {pm : Nat → Option Nat} {T : Nat} (hf : ∀ x y, x < T → y < T → x ≠ y → B x y = !(B y x)) (ht : ∀ x y z, x < T → y < T → z < T → B x y = true → B y z = true → x ≠ z → B x z = true) {k : Nat} (hk : k < (rkS B pm T).1) : cntP (fun w => (pm w).isSome && (decide (w ≠ (rkS B pm T).2 k) && B w ((rkS B pm T).2 k))) T = k := by
  rw [rk_cnt (B := B) (P := fun w => decide (w ≠ (rkS B pm T).2 k) && B w ((rkS B pm T).2 k)) T]
  have hs := rk_sort (pm := pm) hf ht T (Nat.le_refl _)
  have hin := (rkS_in (B := B) (pm := pm) T).2
  refine cntP_p _ (Nat.le_of_lt hk) (fun j hj => ?_) (fun j h1 h2 => ?_)
  · have := hs j k hj hk
    simp [this.1, this.2]
  · by_cases e : j = k
    · rw [e]; simp
    · have := hs k j (by omega) h2
      have a := (hin j h2).1
      have b := (hin k hk).1
      rw [hf _ _ a b this.2.symm, this.1]
      simp
/-- each result has a rank -/
theorem rk_has {B : Nat → Nat → Bool} {pm : Nat → Option Nat} : ∀ t x, x < t → (pm x).isSome = true → ∃ k, k < (rkS B pm t).1 ∧ (rkS B pm t).2 k = x := by
  intro t
  induction t with
  | zero => intro x h; omega
  | succ t ih =>
    intro x hx hs
    have hp := insK_le (B := B t) (r := (rkS B pm t).2) (rkS B pm t).1
    rw [rkS]
    by_cases e : x = t
    · subst e
      rw [if_pos hs]
      exact ⟨_, Nat.lt_succ_of_le hp, by show insR _ _ _ _ = _; unfold insR; rw [if_neg (Nat.lt_irrefl _), if_pos rfl]⟩
    · obtain ⟨k, h1, h2⟩ := ih x (by omega) hs
      by_cases q : (pm t).isSome = true
      · rw [if_pos q]
        by_cases w : k < insK (B t) (rkS B pm t).2 (rkS B pm t).1
        · exact ⟨k, Nat.lt_succ_of_lt h1, by show insR _ _ _ _ = _; unfold insR; rw [if_pos w]; exact h2⟩
        · exact ⟨k + 1, Nat.succ_lt_succ h1, by show insR _ _ _ _ = _; unfold insR; rw [if_neg (by omega), if_neg (by omega)]; exact h2⟩
      · rw [if_neg q]; exact ⟨k, h1, h2⟩
/-- by name: where two titles part -/
theorem nb_iff {f g : Nat → Int32} {n m : Nat} : ∀ (fu k : Nat), n - k ≤ fu → k ≤ n → k ≤ m → (nb f g n m k fu = true ↔ ∃ d, k ≤ d ∧ d ≤ n ∧ d ≤ m ∧ (∀ x, k ≤ x → x < d → f x = g x) ∧ (d < n ∧ d < m ∧ f d < g d ∨ d = n ∧ n < m)) := by
  intro fu
  induction fu with
  | zero =>
    intro k h1 h2 h3
    rw [nb_stop (by omega), decide_eq_true_iff]
    constructor
    · intro h; exact ⟨k, Nat.le_refl _, h2, h3, fun x a b => by omega, Or.inr ⟨by omega, h⟩⟩
    · rintro ⟨d, a, b, c, e, h | h⟩ <;> omega
  | succ fu ih =>
    intro k h1 h2 h3
    by_cases hc : k < n ∧ k < m
    · rw [nb, if_pos hc]
      by_cases he : f k = g k
      · rw [if_pos he, ih (k + 1) (by omega) (by omega) (by omega)]
        constructor
        · rintro ⟨d, a, b, c, e, h⟩
          exact ⟨d, by omega, b, c, fun x a1 a2 => by by_cases q : x = k; (· rw [q]; exact he); exact e x (by omega) a2, h⟩
        · rintro ⟨d, a, b, c, e, h⟩
          have hd : d ≠ k := by
            rintro rfl
            rcases h with h | h
            · rw [he, Int32.lt_iff_toInt_lt] at h; omega
            · omega
          exact ⟨d, by omega, b, c, fun x a1 a2 => e x (by omega) a2, h⟩
      · rw [if_neg he, decide_eq_true_iff]
        constructor
        · intro h; exact ⟨k, Nat.le_refl _, h2, h3, fun x a b => by omega, Or.inl ⟨hc.1, hc.2, h⟩⟩
        · rintro ⟨d, a, b, c, e, h⟩
          have hd : d = k := by
            by_cases q : d = k
            · exact q
            · exact absurd (e k (Nat.le_refl _) (by omega)) he
          subst hd
          rcases h with h | h
          · exact h.2.2
          · omega
    · rw [nb_stop (by omega), decide_eq_true_iff]
      constructor
      · intro h; exact ⟨k, Nat.le_refl _, h2, h3, fun x a b => by omega, Or.inr ⟨by omega, h⟩⟩
      · rintro ⟨d, a, b, c, e, h | h⟩ <;> omega
theorem nb_trans {f g h : Nat → Int32} {n m o : Nat} (h1 : nb f g n m 0 n = true) (h2 : nb g h m o 0 m = true) : nb f h n o 0 n = true := by
  rw [nb_iff _ _ (by omega) (Nat.zero_le _) (Nat.zero_le _)] at h1 h2 ⊢
  obtain ⟨d, -, a1, a2, a3, a4⟩ := h1
  obtain ⟨e, -, b1, b2, b3, b4⟩ := h2
  by_cases c : d < e
  · refine ⟨d, Nat.zero_le _, a1, by omega, fun x x1 x2 => (a3 x x1 x2).trans (b3 x x1 (by omega)), ?_⟩
    rcases a4 with a4 | a4
    · exact Or.inl ⟨a4.1, by omega, by rw [← b3 d (Nat.zero_le _) c]; exact a4.2.2⟩
    · exact Or.inr ⟨a4.1, by omega⟩
  · by_cases c2 : e < d
    · refine ⟨e, Nat.zero_le _, by omega, b2, fun x x1 x2 => (a3 x x1 (by omega)).trans (b3 x x1 x2), ?_⟩
      rcases b4 with b4 | b4
      · exact Or.inl ⟨by omega, b4.2.1, by rw [a3 e (Nat.zero_le _) c2]; exact b4.2.2⟩
      · omega
    · have ed : e = d := by omega
      subst ed
      refine ⟨e, Nat.zero_le _, a1, b2, fun x x1 x2 => (a3 x x1 x2).trans (b3 x x1 x2), ?_⟩
      rcases a4 with a4 | a4 <;> rcases b4 with b4 | b4
      · refine Or.inl ⟨a4.1, b4.2.1, ?_⟩
        have := a4.2.2
        have := b4.2.2
        rw [Int32.lt_iff_toInt_lt] at *
        omega
      · omega
      · exact Or.inr ⟨a4.1, by omega⟩
      · omega
theorem cb_trans {od : Nat} {pl : Nat → Nat} {ln : Nat → Nat} {fl : Nat → Nat → Int32} {us : Nat → Int32} {x y z : Nat} (h1 : cbB od x (pl x) y (pl y) ln fl us = true) (h2 : cbB od y (pl y) z (pl z) ln fl us = true) : cbB od x (pl x) z (pl z) ln fl us = true := by
  by_cases e : od = 2
  · unfold cbB at *
    rw [if_pos e] at *
    exact nb_trans h1 h2
  · have key : ∀ i j, cbB od i (pl i) j (pl j) ln fl us = true ↔ (od = 1 ∧ (us j).toInt < (us i).toInt) ∨ ((od = 1 → (us i).toInt = (us j).toInt) ∧ (pl i < pl j ∨ (pl i = pl j ∧ (ln i < ln j ∨ (ln i = ln j ∧ i < j))))) := by
      intro i j
      have hu : us i = us j ↔ (us i).toInt = (us j).toInt := Int32.toInt_inj.symm
      unfold cbB
      rw [if_neg e]
      by_cases c1 : od = 1 ∧ us i ≠ us j
      · rw [if_pos c1, decide_eq_true_iff, Int32.lt_iff_toInt_lt]
        have := c1.2
        rw [ne_eq, hu] at this
        omega
      · rw [if_neg c1]
        have c1 : od = 1 → (us i).toInt = (us j).toInt := fun q => by
          by_cases w : us i = us j
          · exact hu.mp w
          · exact absurd ⟨q, w⟩ c1
        by_cases c2 : pl i ≠ pl j
        · rw [if_pos c2, decide_eq_true_iff]; omega
        · rw [if_neg c2]
          by_cases c3 : ln i ≠ ln j
          · rw [if_pos c3, decide_eq_true_iff]; omega
          · rw [if_neg c3, decide_eq_true_iff]; omega
    rw [key] at *
    omega
