/-! the law's titles: numbers of five bits a character -/
def tA (t k : Nat) : Nat := t / 2 ^ (5 * k) % 32
def tS (t : Nat) : Nat := (fnd (fun k => decide (tA t k = 0)) 0 12).getD 12
def tC (c : Nat) : Nat := if c = 27 then 32 else if c = 28 then 48 else 96 + c
def tF (t k : Nat) : Int32 := nI (tC (tA t k))
theorem tA_lt {t k : Nat} : tA t k < 32 := Nat.mod_lt _ (by decide)
theorem tC_lt {c : Nat} (h : c < 32) : tC c < 128 := by unfold tC; split; (· omega); split <;> omega
theorem tS_le {t : Nat} : tS t ≤ 12 := by
  unfold tS
  cases h : fnd (fun k => decide (tA t k = 0)) 0 12 with
  | none => exact Nat.le_refl _
  | some x => have := (fnd_some _ _ _).mp h; show x ≤ 12; omega
theorem tS_at {t k : Nat} (h : k < tS t) : tA t k ≠ 0 := by
  unfold tS at h
  intro e
  cases q : fnd (fun k => decide (tA t k = 0)) 0 12 with
  | none =>
    rw [q] at h
    have := (fnd_none _ _).mp q k (Nat.zero_le _) (by have : k < 12 := h; omega)
    rw [e] at this
    cases this
  | some x =>
    rw [q] at h
    have := ((fnd_some _ _ _).mp q).2.2.2 k (Nat.zero_le _) h
    rw [e] at this
    cases this
theorem tS_z {t : Nat} (h : t < 2 ^ 60) : tA t (tS t) = 0 := by
  unfold tS
  cases q : fnd (fun k => decide (tA t k = 0)) 0 12 with
  | none =>
    show t / 2 ^ (5 * 12) % 32 = 0
    rw [Nat.div_eq_of_lt h]
  | some x =>
    have := ((fnd_some _ _ _).mp q).2.2.1
    exact of_decide_eq_true this
theorem tS_of {t n : Nat} (hn : n ≤ 12) (h1 : ∀ k, k < n → tA t k ≠ 0) (h2 : tA t n = 0) : tS t = n := by
  have e : ¬ tS t < n := by
    intro h
    by_cases q : tS t < 12
    · unfold tS at h q
      cases w : fnd (fun k => decide (tA t k = 0)) 0 12 with
      | none => rw [w] at q; exact absurd q (Nat.lt_irrefl _)
      | some x =>
        rw [w] at h
        exact h1 x h (of_decide_eq_true ((fnd_some _ _ _).mp w).2.2.1)
    · omega
  have e2 : ¬ n < tS t := fun h => tS_at h h2
  omega
theorem tA_div {t s k : Nat} : tA (t / 2 ^ (5 * s)) k = tA t (s + k) := by
  unfold tA
  rw [Nat.div_div_eq_div_mul, ← Nat.pow_add, ← Nat.mul_add]
theorem p5 {k n : Nat} (h : k ≤ n) : 2 ^ (5 * n) = 2 ^ (5 * k) * 2 ^ (5 * (n - k)) := by
  rw [← Nat.pow_add, ← Nat.mul_add, show k + (n - k) = n by omega]
theorem p32 {n : Nat} (h : 0 < n) : 2 ^ (5 * n) = 32 * 2 ^ (5 * (n - 1)) := by
  rw [p5 (k := 1) h]
theorem tA_mod {t l k : Nat} (h : k < l) : tA (t % 2 ^ (5 * l)) k = tA t k := by
  unfold tA
  rw [p5 (Nat.le_of_lt h), Nat.mod_mul_right_div_self, p32 (show 0 < l - k by omega), Nat.mod_mul_right_mod]
theorem tA_hi {t n k : Nat} (h : t < 2 ^ (5 * n)) (hk : n ≤ k) : tA t k = 0 := by
  unfold tA
  have : 2 ^ (5 * n) ≤ 2 ^ (5 * k) := Nat.pow_le_pow_right (by decide) (by omega)
  rw [Nat.div_eq_of_lt (by omega)]
theorem tA_ext : ∀ (n a b : Nat), a < 2 ^ (5 * n) → b < 2 ^ (5 * n) → (∀ k, k < n → tA a k = tA b k) → a = b := by
  intro n
  induction n with
  | zero => intro a b ha hb _; simp at ha hb; omega
  | succ n ih =>
    intro a b ha hb h
    have h0 := h 0 (by omega)
    unfold tA at h0
    simp at h0
    rw [p32 (Nat.succ_pos n)] at ha hb
    have h1 : a / 32 = b / 32 := by
      refine ih _ _ (by rw [show n + 1 - 1 = n from rfl] at ha; omega) (by rw [show n + 1 - 1 = n from rfl] at hb; omega) (fun k hk => ?_)
      have h2 := h (1 + k) (by omega)
      rw [← tA_div, ← tA_div] at h2
      exact h2
    omega
/-- no characters behind its end -/
def gn (t : Nat) : Prop := t < 2 ^ (5 * tS t)
theorem gn.lt {t : Nat} (h : gn t) : t < 2 ^ 60 := Nat.lt_of_lt_of_le h (Nat.pow_le_pow_right (by decide) (by have := tS_le (t := t); omega))
theorem gn_ext {a b : Nat} (ha : gn a) (hb : gn b) (hs : tS a = tS b) (h : ∀ k, k < tS a → tA a k = tA b k) : a = b :=
  tA_ext (tS a) a b ha (by rw [hs]; exact hb) h
theorem gn_0 : gn 0 ∧ tS 0 = 0 := ⟨by unfold gn; decide, by decide⟩
theorem tS_0 {t : Nat} (h : gn t) (h0 : tS t = 0) : t = 0 := by
  unfold gn at h
  rw [h0] at h
  simpa using h
/-- a number out of its characters -/
theorem gn_of {t n : Nat} (hn : n ≤ 12) (h : t < 2 ^ (5 * n)) (h1 : ∀ k, k < n → tA t k ≠ 0) : gn t ∧ tS t = n := by
  have e := tS_of hn h1 (tA_hi h (Nat.le_refl _))
  exact ⟨by unfold gn; rw [e]; exact h, e⟩
/-- one character more -/
theorem tA_or {v n a : Nat} (hv : v < 2 ^ (5 * n)) : v ||| a * 2 ^ (5 * n) = v + a * 2 ^ (5 * n) := by
  rw [Nat.or_comm, Nat.mul_comm, ← Nat.two_pow_add_eq_or_of_lt hv, Nat.add_comm]
theorem tA_add {v n a k : Nat} (hv : v < 2 ^ (5 * n)) (ha : a < 32) : tA (v + a * 2 ^ (5 * n)) k = if k < n then tA v k else if k = n then a else 0 := by
  by_cases h : k < n
  · rw [if_pos h, ← tA_mod h (t := v + a * 2 ^ (5 * n)), Nat.add_mul_mod_self_right, tA_mod h]
  · rw [if_neg h]
    by_cases e : k = n
    · rw [if_pos e, e]
      unfold tA
      rw [Nat.add_mul_div_right _ _ (Nat.two_pow_pos _), Nat.div_eq_of_lt hv, Nat.zero_add, Nat.mod_eq_of_lt ha]
    · rw [if_neg e]
      refine tA_hi (n := n + 1) ?_ (by omega)
      rw [p5 (show n ≤ n + 1 by omega), show n + 1 - n = 1 by omega]
      have : a * 2 ^ (5 * n) ≤ 31 * 2 ^ (5 * n) := Nat.mul_le_mul_right _ (by omega)
      show _ < 2 ^ (5 * n) * 32
      omega
theorem tA_lt2 {v n a : Nat} (hv : v < 2 ^ (5 * n)) (ha : a < 32) : v + a * 2 ^ (5 * n) < 2 ^ (5 * (n + 1)) := by
  rw [p5 (show n ≤ n + 1 by omega), show n + 1 - n = 1 by omega]
  have : a * 2 ^ (5 * n) ≤ 31 * 2 ^ (5 * n) := Nat.mul_le_mul_right _ (by omega)
  show _ < 2 ^ (5 * n) * 32
  omega
theorem gn_add {v a : Nat} (h : gn v) (h12 : tS v < 12) (ha : a < 32) (h0 : a ≠ 0) : gn (v + a * 2 ^ (5 * tS v)) ∧ tS (v + a * 2 ^ (5 * tS v)) = tS v + 1 := by
  refine gn_of (by omega) (tA_lt2 h ha) (fun k hk => ?_)
  rw [tA_add h ha]
  by_cases e : k < tS v
  · rw [if_pos e]; exact tS_at e
  · rw [if_neg e, if_pos (by omega)]; exact h0
/-- one character less -/
theorem gn_cut {v n : Nat} (hn : n ≤ tS v) : gn (v % 2 ^ (5 * n)) ∧ tS (v % 2 ^ (5 * n)) = n := by
  refine gn_of (by have := tS_le (t := v); omega) (Nat.mod_lt _ (Nat.two_pow_pos _)) (fun k hk => ?_)
  rw [tA_mod hk]
  exact tS_at (by omega)
/-- characters that may stand in a title -/
def ch28 (t : Nat) : Prop := ∀ k, k < tS t → tA t k ≤ 28
theorem tC_32 {c : Nat} (h : c ≤ 28) : tC c = 32 ↔ c = 27 := by
  unfold tC
  constructor
  · intro e
    by_cases q : c = 27
    · exact q
    · rw [if_neg q] at e
      split at e <;> omega
  · intro e; rw [if_pos e]
theorem tC_inj {c d : Nat} (h0 : c ≠ 0) (h : c ≤ 28) (g0 : d ≠ 0) (g : d ≤ 28) : tC c = tC d ↔ c = d := by
  constructor
  · intro e
    unfold tC at e
    split at e <;> split at e <;> (try split at e) <;> (try split at e) <;> omega
  · intro e; rw [e]
theorem tF_32 {t k : Nat} (hc : ch28 t) (hk : k < tS t) : tF t k = nI 32 ↔ tA t k = 27 := by
  unfold tF
  have h1 := tC_lt (tA_lt (t := t) (k := k))
  rw [nI_eq (by omega) (by omega)]
  exact tC_32 (hc k hk)
theorem tF_eq {t u k j : Nat} (hc : ch28 t) (hd : ch28 u) (hk : k < tS t) (hj : j < tS u) : tF t k = tF u j ↔ tA t k = tA u j := by
  unfold tF
  have h1 := tC_lt (tA_lt (t := t) (k := k))
  have h2 := tC_lt (tA_lt (t := u) (k := j))
  rw [nI_eq (by omega) (by omega)]
  exact tC_inj (tS_at hk) (hc k hk) (tS_at hj) (hd j hj)
theorem tF_A {t u k j : Nat} (h : tA t k = tA u j) : tF t k = tF u j := by unfold tF; rw [h]
/-- a title of the law -/
def gT (t : Nat) : Prop := gn t ∧ ch28 t ∧ tS t ≤ 9 ∧ TV (tS t) (tF t)
theorem gT.g {t : Nat} (h : gT t) : gn t := h.1
theorem gT.c {t : Nat} (h : gT t) : ch28 t := h.2.1
theorem gT.n {t : Nat} (h : gT t) : tS t ≤ 9 := h.2.2.1
theorem gT.V {t : Nat} (h : gT t) : TV (tS t) (tF t) := h.2.2.2
theorem gT_ext {a b : Nat} (ha : gT a) (hb : gT b) : a = b ↔ eqT (tF a) (tF b) (tS a) (tS b) = true := by
  unfold eqT mtB
  simp only [Bool.and_eq_true, decide_eq_true_eq, Nat.zero_add]
  constructor
  · rintro rfl; exact ⟨rfl, fun _ _ => rfl⟩
  · rintro ⟨h1, h2⟩
    exact gn_ext ha.g hb.g h1 (fun k hk => (tF_eq ha.c hb.c hk (by omega)).mp (h2 k hk))
