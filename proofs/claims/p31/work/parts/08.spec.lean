/-! pure words: runs of equal characters -/
def sl (f g : Nat → Int32) (n m : Nat) : Nat → Nat → Nat → Nat
  | _, _, 0 => 0
  | i, j, k + 1 => if i < n ∧ j < m ∧ f i = g j then sl f g n m (i + 1) (j + 1) k + 1 else 0
theorem sl_stop {f g : Nat → Int32} {n m i j k : Nat} (h : k = 0 ∨ n ≤ i ∨ m ≤ j ∨ ¬ f i = g j) : sl f g n m i j k = 0 := by
  cases k with
  | zero => rfl
  | succ k =>
    rw [sl, if_neg]
    rintro ⟨h1, h2, h3⟩
    rcases h with h | h | h | h
    · cases h
    · omega
    · omega
    · exact h h3
theorem sl_step {f g : Nat → Int32} {n m i j k : Nat} (hk : 0 < k) (hi : i < n) (hj : j < m) (h : f i = g j) : sl f g n m i j k = sl f g n m (i + 1) (j + 1) (k - 1) + 1 := by
  cases k with
  | zero => omega
  | succ k => rw [sl, if_pos ⟨hi, hj, h⟩]; rfl
theorem sl_le {f g : Nat → Int32} {n m : Nat} : ∀ (k i j : Nat), sl f g n m i j k ≤ k := by
  intro k
  induction k with
  | zero => intro i j; exact Nat.le_refl _
  | succ k ih =>
    intro i j
    rw [sl]
    split
    · exact Nat.succ_le_succ (ih _ _)
    · exact Nat.zero_le _
/-- at least r are the same -/
theorem sl_ge {f g : Nat → Int32} {n m : Nat} : ∀ (k i j r : Nat), r ≤ sl f g n m i j k ↔ r ≤ k ∧ ∀ x, x < r → i + x < n ∧ j + x < m ∧ f (i + x) = g (j + x) := by
  intro k
  induction k with
  | zero =>
    intro i j r
    rw [sl]
    constructor
    · intro h; exact ⟨h, fun x hx => by omega⟩
    · intro h; exact h.1
  | succ k ih =>
    intro i j r
    rw [sl]
    split
    · rename_i hc
      cases r with
      | zero => constructor <;> intro _ <;> first | exact ⟨Nat.zero_le _, fun x hx => by omega⟩ | exact Nat.zero_le _
      | succ r =>
        rw [Nat.succ_le_succ_iff, ih]
        constructor
        · rintro ⟨h1, h2⟩
          refine ⟨by omega, fun x hx => ?_⟩
          cases x with
          | zero => simpa using hc
          | succ x =>
            have := h2 x (by omega)
            rw [show i + (x + 1) = i + 1 + x by omega, show j + (x + 1) = j + 1 + x by omega]
            exact this
        · rintro ⟨h1, h2⟩
          refine ⟨by omega, fun x hx => ?_⟩
          have := h2 (x + 1) (by omega)
          rw [show i + (x + 1) = i + 1 + x by omega, show j + (x + 1) = j + 1 + x by omega] at this
          exact this
    · rename_i hc
      constructor
      · intro h; exact ⟨by omega, fun x hx => by omega⟩
      · rintro ⟨h1, h2⟩
        cases r with
        | zero => exact Nat.le_refl _
        | succ r => exact absurd (by simpa using h2 0 (by omega)) hc
/-! pure words: titles, pieces -/
theorem rT {b : Bool} (h : b = true) : some (Value.int (nI 1)) = some (Value.int (mB b)) := by rw [h]; rfl
theorem rF {b : Bool} (h : b = false) : some (Value.int (nI 0)) = some (Value.int (mB b)) := by rw [h]; rfl
/-- the first place from p on, of k places -/
def fnd (P : Nat → Bool) : Nat → Nat → Option Nat
  | _, 0 => none
  | p, k + 1 => if P p = true then some p else fnd P (p + 1) k
def oI : Option Nat → Int32
  | none => -6
  | some p => nI p
theorem fnd_none {P : Nat → Bool} : ∀ (k p : Nat), fnd P p k = none ↔ ∀ x, p ≤ x → x < p + k → P x = false := by
  intro k
  induction k with
  | zero => intro p; exact ⟨fun _ x h1 h2 => by omega, fun _ => rfl⟩
  | succ k ih =>
    intro p
    rw [fnd]
    split
    · rename_i h
      constructor
      · intro q; cases q
      · intro q
        have := q p (Nat.le_refl _) (by omega)
        rw [h] at this
        cases this
    · rename_i h
      rw [ih]
      constructor
      · intro q x h1 h2
        by_cases e : x = p
        · subst e; simpa using h
        · exact q x (by omega) (by omega)
      · intro q x h1 h2
        exact q x (by omega) (by omega)
theorem fnd_some {P : Nat → Bool} : ∀ (k p x : Nat), fnd P p k = some x ↔ p ≤ x ∧ x < p + k ∧ P x = true ∧ ∀ y, p ≤ y → y < x → P y = false := by
  intro k
  induction k with
  | zero =>
    intro p x
    constructor
    · intro h; cases h
    · intro h; omega
  | succ k ih =>
    intro p x
    rw [fnd]
    split
    · rename_i h
      constructor
      · intro q; cases q; exact ⟨Nat.le_refl _, by omega, h, fun y h1 h2 => by omega⟩
      · rintro ⟨h1, h2, h3, h4⟩
        by_cases e : x = p
        · rw [e]
        · have := h4 p (Nat.le_refl _) (by omega)
          rw [h] at this
          cases this
    · rename_i h
      rw [ih]
      constructor
      · rintro ⟨h1, h2, h3, h4⟩
        refine ⟨by omega, by omega, h3, fun y g1 g2 => ?_⟩
        by_cases e : y = p
        · subst e; simpa using h
        · exact h4 y (by omega) g2
      · rintro ⟨h1, h2, h3, h4⟩
        by_cases e : x = p
        · subst e; exact absurd h3 h
        · exact ⟨by omega, by omega, h3, fun y g1 g2 => h4 y (by omega) g2⟩
/-- the first steps of fnd -/
theorem fnd_step {P : Nat → Bool} {p k : Nat} (hk : 0 < k) (h : P p = false) : fnd P p k = fnd P (p + 1) (k - 1) := by
  cases k with
  | zero => omega
  | succ k => rw [fnd, if_neg (by rw [h]; decide)]; rfl
theorem fnd_hit {P : Nat → Bool} {p k : Nat} (hk : 0 < k) (h : P p = true) : fnd P p k = some p := by
  cases k with
  | zero => omega
  | succ k => rw [fnd, if_pos h]
theorem fnd_cong {P Q : Nat → Bool} : ∀ (k p : Nat), (∀ x, p ≤ x → x < p + k → P x = Q x) → fnd P p k = fnd Q p k := by
  intro k
  induction k with
  | zero => intro p _; rfl
  | succ k ih =>
    intro p h
    rw [fnd, fnd, h p (Nat.le_refl _) (by omega), ih (p + 1) (fun x h1 h2 => h x (by omega) (by omega))]
/-- whether a piece may start at p: of a title of n letters f, m initials -/
def spB (mo n m : Nat) (f : Nat → Int32) (p : Nat) : Bool :=
  if mo = 3 then decide (p < m) else decide (p < n) && (if mo = 1 then decide (p = 0) else if mo = 2 then decide (p = 0 ∨ f (p - 1) = nI 32) else decide (f p ≠ nI 32))
/-- what pieces are cut from -/
def rN (mo n m : Nat) : Nat := if mo = 3 then m else n
def rG (mo : Nat) (f ini : Nat → Int32) : Nat → Int32 := if mo = 3 then ini else f
def mtB (q r : Nat → Int32) (len p : Nat) : Bool := decide (∀ x, x < len → q x = r (p + x))
/-- the place of the first len characters of q in a title -/
def plc (mo n m : Nat) (f ini q : Nat → Int32) (len : Nat) : Option Nat := fnd (fun p => spB mo n m f p && mtB q (rG mo f ini) len p) 0 (rN mo n m + 1 - len)
theorem sl_full {q r : Nat → Int32} {a b p len : Nat} (h1 : len ≤ a) (h2 : p + len ≤ b) : sl q r a b 0 p len = len ↔ mtB q r len p = true := by
  unfold mtB
  rw [decide_eq_true_eq]
  have h := sl_ge (f := q) (g := r) (n := a) (m := b) len 0 p len
  constructor
  · intro e
    have := (h.mp (by omega)).2
    intro x hx
    have := (this x hx).2.2
    rwa [Nat.zero_add] at this
  · intro g
    have := h.mpr ⟨Nat.le_refl _, fun x hx => ⟨by omega, by omega, by rw [Nat.zero_add]; exact g x hx⟩⟩
    have := sl_le (f := q) (g := r) (n := a) (m := b) len 0 p
    omega
/-- the longest common run -/
def cmJ (f g : Nat → Int32) (n m i : Nat) : Nat → Nat
  | 0 => 0
  | j + 1 => max (cmJ f g n m i j) (sl f g n m i j 24)
def cmI (f g : Nat → Int32) (n m : Nat) : Nat → Nat
  | 0 => 0
  | i + 1 => max (cmI f g n m i) (cmJ f g n m i m)
theorem cmJ_le {f g : Nat → Int32} {n m i : Nat} : ∀ j, cmJ f g n m i j ≤ 24
  | 0 => Nat.zero_le _
  | j + 1 => Nat.max_le.mpr ⟨cmJ_le j, sl_le _ _ _⟩
theorem cmI_le {f g : Nat → Int32} {n m : Nat} : ∀ i, cmI f g n m i ≤ 24
  | 0 => Nat.zero_le _
  | i + 1 => Nat.max_le.mpr ⟨cmI_le i, cmJ_le _⟩
/-- by name -/
def nb (f g : Nat → Int32) (n m : Nat) : Nat → Nat → Bool
  | _, 0 => decide (n < m)
  | k, fuel + 1 => if k < n ∧ k < m then (if f k = g k then nb f g n m (k + 1) fuel else decide (f k < g k)) else decide (n < m)
/-- blanks, beginnings of words -/
def cnB (f : Nat → Int32) : Nat → Nat
  | 0 => 0
  | k + 1 => cnB f k + (if f k = nI 32 then 1 else 0)
def wsB (f : Nat → Int32) (k : Nat) : Bool := decide (k = 0 ∨ f (k - 1) = nI 32)
def wsN (f : Nat → Int32) : Nat → Nat
  | 0 => 0
  | k + 1 => wsN f k + (if wsB f k = true then 1 else 0)
theorem cnB_le {f : Nat → Int32} : ∀ k, cnB f k ≤ k
  | 0 => Nat.le_refl _
  | k + 1 => by have := cnB_le (f := f) k; rw [cnB]; split <;> omega
theorem cnB_mono {f : Nat → Int32} {a : Nat} : ∀ b, a ≤ b → cnB f a ≤ cnB f b := by
  intro b h
  induction b with
  | zero => rw [Nat.le_zero.mp h]; exact Nat.le_refl _
  | succ b ih =>
    by_cases e : a = b + 1
    · rw [e]; exact Nat.le_refl _
    · have := ih (by omega); rw [cnB]; omega
theorem wsN_cnB {f : Nat → Int32} : ∀ k, wsN f (k + 1) = cnB f k + 1 := by
  intro k
  induction k with
  | zero => rfl
  | succ k ih =>
    rw [wsN, ih, cnB]
    unfold wsB
    by_cases h : f k = nI 32
    · simp [h]
    · simp [h]
theorem wsN_mono {f : Nat → Int32} {a : Nat} : ∀ b, a ≤ b → wsN f a ≤ wsN f b := by
  intro b h
  induction b with
  | zero => rw [Nat.le_zero.mp h]; exact Nat.le_refl _
  | succ b ih =>
    by_cases e : a = b + 1
    · rw [e]; exact Nat.le_refl _
    · have := ih (by omega); rw [wsN]; omega
theorem wsN_lt {f : Nat → Int32} {a b : Nat} (h : a < b) (ha : wsB f a = true) : wsN f a < wsN f b := by
  have h1 : wsN f (a + 1) = wsN f a + 1 := by rw [wsN, if_pos ha]
  have := wsN_mono (f := f) b (show a + 1 ≤ b from h)
  omega
/-- a title's cells: the object, its letters, its initials -/
def tR (M : mM) (a n : Nat) (f : Nat → Int32) (m : Nat) (ini : Nat → Int32) (u : Int32) : Prop := ∃ la ia, M a = some (1, .inl (6, [.ref la, .ref ia, .int u])) ∧ M la = some (1, .inr (1, n, .inl f)) ∧ M ia = some (1, .inr (1, m, .inl ini))
theorem tR.at {T : List Nat} {M M1 : mM} {a n m : Nat} {f ini : Nat → Int32} {u : Int32} (hF : mZ T M M1) (hT : 1 ∉ T) (h : tR M a n f m ini u) : tR M1 a n f m ini u := by
  obtain ⟨la, ia, h1, h2, h3⟩ := h
  exact ⟨la, ia, hF.at h1 hT, hF.at h2 hT, hF.at h3 hT⟩
theorem nb_stop {f g : Nat → Int32} {n m k fuel : Nat} (h : n ≤ k ∨ m ≤ k) : nb f g n m k fuel = decide (n < m) := by
  cases fuel with
  | zero => rfl
  | succ z => rw [nb, if_neg (by omega)]
theorem nb_ne {f g : Nat → Int32} {n m k fuel : Nat} (h0 : 0 < fuel) (h1 : k < n) (h2 : k < m) (h3 : ¬ f k = g k) : nb f g n m k fuel = decide (f k < g k) := by
  cases fuel with
  | zero => omega
  | succ z => rw [nb, if_pos ⟨h1, h2⟩, if_neg h3]
theorem nb_eq {f g : Nat → Int32} {n m k fuel : Nat} (h0 : 0 < fuel) (h1 : k < n) (h2 : k < m) (h3 : f k = g k) : nb f g n m k fuel = nb f g n m (k + 1) (fuel - 1) := by
  cases fuel with
  | zero => omega
  | succ z => rw [nb, if_pos ⟨h1, h2⟩, if_pos h3]; rfl
theorem i32_nle {x y : Int32} : ¬ y ≤ x ↔ x < y := by rw [Int32.le_iff_toInt_le, Int32.lt_iff_toInt_lt]; omega
theorem i32_le {x y : Int32} : y ≤ x ↔ ¬ x < y := by rw [Int32.le_iff_toInt_le, Int32.lt_iff_toInt_lt]; omega
/-- the same letters -/
def eqT (f g : Nat → Int32) (n m : Nat) : Bool := decide (n = m) && mtB f g n 0
/-- what holds of the row of initials -/
def inT (f ini : Nat → Int32) (n : Nat) : Prop := ∀ k, k < n → wsB f k = true → ini (wsN f k) = f k
