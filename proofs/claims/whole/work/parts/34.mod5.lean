/-! the reference's steps -/
theorem wiB_ix {a : Int32} {T : Nat} (hT : T < 1000) : wiB a (nI 0) (nI T - nI 1) = isIx a T := by
  unfold wiB isIx
  refine decide_eq_decide.mpr ?_
  have h1 := pk_sub_toInt (a := T) (b := 1) (by omega) (by omega)
  rw [nI_0, Int32.lt_iff_toInt_lt (x := nI T - nI 1), h1, Int32.le_iff_toInt_le, nI_toInt (by omega)]
  refine and_congr Iff.rfl ?_
  omega
theorem dupB_step {t : Nat} {ln : Nat → Nat} {fl : Nat → Nat → Int32} {g : Nat → Int32} {n2 : Nat} : dupB (t + 1) ln fl g n2 = (dupB t ln fl g n2 || eqT (fl t) g (ln t) n2) := by
  unfold dupB
  rw [← Bool.decide_eq_true (b := eqT (fl t) g (ln t) n2), ← Bool.decide_or]
  refine decide_eq_decide.mpr ⟨?_, ?_⟩
  · rintro ⟨u, h1, h2⟩
    by_cases e : u = t
    · right; rw [← e]; simpa using h2
    · exact Or.inl ⟨u, by omega, h2⟩
  · rintro (⟨u, h1, h2⟩ | h)
    · exact ⟨u, by omega, h2⟩
    · exact ⟨t, by omega, by simpa using h⟩
theorem dupB_0 {ln : Nat → Nat} {fl : Nat → Nat → Int32} {g : Nat → Int32} {n2 : Nat} : dupB 0 ln fl g n2 = false := by
  unfold dupB
  exact decide_eq_false (fun ⟨u, h, _⟩ => absurd h (Nat.not_lt_zero u))
theorem eqT_no {f g : Nat → Int32} {n m k : Nat} (hk : k ≤ n) (h : (decide (n = m) && mtB f g k 0) = false) : eqT f g n m = false := by
  unfold eqT
  cases e : decide (n = m) with
  | false => rfl
  | true =>
    rw [e, Bool.true_and] at h
    rw [Bool.true_and]
    unfold mtB at h ⊢
    exact decide_eq_false (fun w => (of_decide_eq_false h) (fun x hx => w x (by omega)))
theorem mtB_s0 {f g : Nat → Int32} {k : Nat} : mtB f g (k + 1) 0 = (mtB f g k 0 && decide (f k = g k)) := by
  unfold mtB
  rw [← Bool.decide_and]
  refine decide_eq_decide.mpr ⟨fun h => ⟨fun x hx => h x (by omega), by have := h k (by omega); rwa [Nat.zero_add] at this⟩, fun h x hx => ?_⟩
  by_cases e : x = k
  · rw [e, Nat.zero_add]; exact h.2
  · exact h.1 x (by omega)
/-- rows that agree where a state lies -/
theorem SR_cong {S S' : Nat → Int32} {T mo od ql : Nat} {q : Nat → Int32} {ln : Nat → Nat} {fl : Nat → Nat → Int32} {us : Nat → Int32} (hok : okX T mo od ql q ln fl) (h : ∀ i, i < 444 → S' i = S i) (hx : SR S T mo od ql q ln fl us) : SR S' T mo od ql q ln fl us := by
  obtain ⟨h0, h1, h2, h3, h4, h5⟩ := hx
  have hT := hok.T16
  have hq := hok.q24
  refine ⟨by rw [h 0 (by omega), h0], by rw [h 1 (by omega), h1], by rw [h 2 (by omega), h2], by rw [h 3 (by omega), h3], fun k hk => by rw [h (4 + k) (by omega), h4 k hk], fun t ht => ?_⟩
  have hl := (hok.V t ht).2.1
  obtain ⟨g1, g2, g3⟩ := h5 t ht
  exact ⟨by rw [h _ (by omega), g1], by rw [h _ (by omega), g2], fun k hk => by rw [h _ (by omega), g3 k hk]⟩
theorem adF_s {α : Type} {f : Nat → α} {t : Nat} {v : α} : adF f t v t = v := if_pos rfl
theorem adF_n {α : Type} {f : Nat → α} {t i : Nat} {v : α} (h : i ≠ t) : adF f t v i = f i := if_neg h
/-- a title more -/
theorem SR_add {S S' : Nat → Int32} {T mo od ql n2 : Nat} {q g2 : Nat → Int32} {ln : Nat → Nat} {fl : Nat → Nat → Int32} {us : Nat → Int32} (hq : ql ≤ 24) (hx : SR S T mo od ql q ln fl us) (hV : ∀ t, t < T → ln t ≤ 24) (h0 : S' 0 = nI (T + 1)) (hlo : ∀ i, 0 < i → i < 28 + 26 * T → S' i = S i) (h1 : S' (28 + 26 * T) = nI n2) (h2 : S' (29 + 26 * T) = nI 0) (h3 : ∀ j, j < n2 → S' (30 + 26 * T + j) = g2 j) : SR S' (T + 1) mo od ql q (adF ln T n2) (adF fl T g2) (adF us T (nI 0)) := by
  obtain ⟨g0, g1, g4, g5, g6, g7⟩ := hx
  refine ⟨h0, by rw [hlo 1 (by omega) (by omega), g1], by rw [hlo 2 (by omega) (by omega), g4], by rw [hlo 3 (by omega) (by omega), g5], fun k hk => by rw [hlo (4 + k) (by omega) (by omega), g6 k hk], fun t ht => ?_⟩
  by_cases e : t = T
  · subst e
    rw [adF_s, adF_s, adF_s]
    exact ⟨h1, h2, h3⟩
  · rw [adF_n e, adF_n e, adF_n e]
    have hl := hV t (by omega)
    obtain ⟨g8, g9, g10⟩ := g7 t (by omega)
    exact ⟨by rw [hlo _ (by omega) (by omega), g8], by rw [hlo _ (by omega) (by omega), g9], fun k hk => by rw [hlo _ (by omega) (by omega), g10 k hk]⟩
/-- a title less -/
theorem SR_drop {S S' : Nat → Int32} {T mo od ql t : Nat} {q : Nat → Int32} {ln : Nat → Nat} {fl : Nat → Nat → Int32} {us : Nat → Int32} (hq : ql ≤ 24) (ht : t < T) (hx : SR S T mo od ql q ln fl us) (hV : ∀ t, t < T → ln t ≤ 24) (h0 : S' 0 = nI (T - 1)) (hlo : ∀ i, 0 < i → i < 28 + 26 * t → S' i = S i) (hhi : ∀ i, 28 + 26 * t ≤ i → i < 28 + 26 * (T - 1) → S' i = S (i + 26)) : SR S' (T - 1) mo od ql q (dpF ln t) (dpF fl t) (dpF us t) := by
  obtain ⟨g0, g1, g4, g5, g6, g7⟩ := hx
  refine ⟨h0, by rw [hlo 1 (by omega) (by omega), g1], by rw [hlo 2 (by omega) (by omega), g4], by rw [hlo 3 (by omega) (by omega), g5], fun k hk => by rw [hlo (4 + k) (by omega) (by omega), g6 k hk], fun i hi => ?_⟩
  unfold dpF
  by_cases e : i < t
  · simp only [if_pos e]
    have hl := hV i (by omega)
    obtain ⟨g8, g9, g10⟩ := g7 i (by omega)
    exact ⟨by rw [hlo _ (by omega) (by omega), g8], by rw [hlo _ (by omega) (by omega), g9], fun k hk => by rw [hlo _ (by omega) (by omega), g10 k hk]⟩
  · simp only [if_neg e]
    have hl := hV (i + 1) (by omega)
    obtain ⟨g8, g9, g10⟩ := g7 (i + 1) (by omega)
    exact ⟨by rw [hhi _ (by omega) (by omega), show 28 + 26 * i + 26 = 28 + 26 * (i + 1) by omega, g8], by rw [hhi _ (by omega) (by omega), show 29 + 26 * i + 26 = 29 + 26 * (i + 1) by omega, g9], fun k hk => by rw [hhi _ (by omega) (by omega), show 30 + 26 * i + k + 26 = 30 + 26 * (i + 1) + k by omega, g10 k hk]⟩
/-- the query is empty -/
theorem SR_clear {S S' : Nat → Int32} {T mo od ql : Nat} {q : Nat → Int32} {ln : Nat → Nat} {fl : Nat → Nat → Int32} {us : Nat → Int32} (hx : SR S T mo od ql q ln fl us) (h3 : S' 3 = nI 0) (h : ∀ i, i < 3 ∨ 28 ≤ i → S' i = S i) : SR S' T mo od 0 q ln fl us := by
  obtain ⟨g0, g1, g4, g5, g6, g7⟩ := hx
  refine ⟨by rw [h 0 (by omega), g0], by rw [h 1 (by omega), g1], by rw [h 2 (by omega), g4], h3, fun k hk => by omega, fun t ht => ?_⟩
  obtain ⟨g8, g9, g10⟩ := g7 t ht
  exact ⟨by rw [h _ (by omega), g8], by rw [h _ (by omega), g9], fun k hk => by rw [h _ (by omega), g10 k hk]⟩
/-- one use more -/
theorem SR_use {S : Nat → Int32} {T mo od ql t : Nat} {q : Nat → Int32} {ln : Nat → Nat} {fl : Nat → Nat → Int32} {us : Nat → Int32} {v : Int32} (hq : ql ≤ 24) (hV : ∀ t, t < T → ln t ≤ 24) (hx : SR S T mo od ql q ln fl us) : SR (upd S (28 + 26 * t + 1) v) T mo od ql q ln fl (adF us t v) := by
  obtain ⟨g0, g1, g4, g5, g6, g7⟩ := hx
  refine ⟨by rw [pk_un (by omega), g0], by rw [pk_un (by omega), g1], by rw [pk_un (by omega), g4], by rw [pk_un (by omega), g5], fun k hk => by rw [pk_un (by omega), g6 k hk], fun u hu => ?_⟩
  have hl := hV u hu
  obtain ⟨g8, g9, g10⟩ := g7 u hu
  refine ⟨by rw [pk_un (by omega), g8], ?_, fun k hk => by rw [pk_un (by omega), g10 k hk]⟩
  by_cases e : u = t
  · rw [e, adF_s, show 29 + 26 * t = 28 + 26 * t + 1 by omega, pk_us]
  · rw [adF_n e, pk_un (by omega), g9]
/-- the saved states -/
def SRx (S : Nat → Int32) (x : mSt) : Prop := SR S x.1 x.2.1 x.2.2.1 x.2.2.2.1 x.2.2.2.2.1 x.2.2.2.2.2.1 x.2.2.2.2.2.2.1 x.2.2.2.2.2.2.2
def okS (x : mSt) : Prop := okX x.1 x.2.1 x.2.2.1 x.2.2.2.1 x.2.2.2.2.1 x.2.2.2.2.2.1 x.2.2.2.2.2.2.1
def hRow (H : Nat → Int32) (c : Nat) (hs : Nat → mSt) : Prop := ∀ j, j < c → okS (hs j) ∧ SRx (fun k => H (444 * (c - 1 - j) + k)) (hs j)
theorem SRx_cong {S S' : Nat → Int32} {x : mSt} (hok : okS x) (h : ∀ i, i < 444 → S' i = S i) (hx : SRx S x) : SRx S' x := SR_cong hok h hx
theorem hRow_shift {H H' : Nat → Int32} {hs : Nat → mSt} (h : hRow H 6 hs) (hh : ∀ k, k < 2220 → H' k = H (k + 444)) : hRow H' 5 hs := by
  intro j hj
  obtain ⟨h1, h2⟩ := h j (by omega)
  refine ⟨h1, SRx_cong h1 (fun i hi => ?_) h2⟩
  show H' (444 * (5 - 1 - j) + i) = H (444 * (6 - 1 - j) + i)
  rw [hh _ (by omega)]
  congr 1
  omega
theorem hRow_push {H H' S : Nat → Int32} {c : Nat} {hs : Nat → mSt} {x : mSt} (h : hRow H c hs) (hok : okS x) (hx : SRx S x) (h1 : ∀ i, i < 444 * c → H' i = H i) (h2 : ∀ k, k < 444 → H' (c * 444 + k) = S k) : hRow H' (c + 1) (hPush x hs) := by
  intro j hj
  unfold hPush
  by_cases e : j = 0
  · rw [if_pos e]
    refine ⟨hok, SRx_cong hok (fun i hi => ?_) hx⟩
    show H' (444 * (c + 1 - 1 - j) + i) = S i
    rw [← h2 i hi]
    congr 1
    rw [e]
    show 444 * (c + 1 - 1 - 0) + i = c * 444 + i
    rw [show c + 1 - 1 - 0 = c by omega, Nat.mul_comm]
  · rw [if_neg e]
    obtain ⟨h3, h4⟩ := h (j - 1) (by omega)
    refine ⟨h3, SRx_cong h3 (fun i hi => ?_) h4⟩
    show H' (444 * (c + 1 - 1 - j) + i) = H (444 * (c - 1 - (j - 1)) + i)
    rw [show c + 1 - 1 - j = c - 1 - (j - 1) by omega]
    exact h1 _ (by omega)
theorem hRow_pop {H : Nat → Int32} {c : Nat} {hs : Nat → mSt} (h : hRow H c hs) (h0 : 0 < c) : hRow H (c - 1) (fun j => hs (j + 1)) := by
  intro j hj
  obtain ⟨h1, h2⟩ := h (j + 1) (by omega)
  refine ⟨h1, SRx_cong h1 (fun i hi => ?_) h2⟩
  show H (444 * (c - 1 - 1 - j) + i) = H (444 * (c - 1 - (j + 1)) + i)
  rw [show c - 1 - 1 - j = c - 1 - (j + 1) by omega]
/-! the longest common run, row by row -/
def bR (f g : Nat → Int32) : Nat → Nat → Nat
  | 0, _ => 0
  | _ + 1, 0 => 0
  | i + 1, k + 1 => if f i = g k then bR f g i k + 1 else 0
def lK (f g : Nat → Int32) (m i : Nat) : Nat → Nat
  | 0 => 0
  | c + 1 => max (lK f g m i c) (bR f g (i + 1) (m - c))
def lI (f g : Nat → Int32) (m : Nat) : Nat → Nat
  | 0 => 0
  | i + 1 => max (lI f g m i) (lK f g m i m)
theorem bR_ge {f g : Nat → Int32} : ∀ (i k r : Nat), r ≤ bR f g i k ↔ r ≤ i ∧ r ≤ k ∧ ∀ x, x < r → f (i - 1 - x) = g (k - 1 - x) := by
  intro i
  induction i with
  | zero =>
    intro k r
    rw [bR]
    exact ⟨fun h => ⟨h, by omega, fun x hx => by omega⟩, fun h => h.1⟩
  | succ i ih =>
    intro k r
    cases k with
    | zero =>
      rw [bR]
      exact ⟨fun h => ⟨by omega, h, fun x hx => by omega⟩, fun h => h.2.1⟩
    | succ k =>
      rw [bR]
      cases r with
      | zero => exact ⟨fun _ => ⟨Nat.zero_le _, Nat.zero_le _, fun x hx => by omega⟩, fun _ => Nat.zero_le _⟩
      | succ r =>
        by_cases e : f i = g k
        · rw [if_pos e, Nat.succ_le_succ_iff, ih]
          constructor
          · rintro ⟨h1, h2, h3⟩
            refine ⟨by omega, by omega, fun x hx => ?_⟩
            cases x with
            | zero => simpa using e
            | succ x =>
              have := h3 x (by omega)
              rw [show i + 1 - 1 - (x + 1) = i - 1 - x by omega, show k + 1 - 1 - (x + 1) = k - 1 - x by omega]
              exact this
          · rintro ⟨h1, h2, h3⟩
            refine ⟨by omega, by omega, fun x hx => ?_⟩
            have := h3 (x + 1) (by omega)
            rw [show i + 1 - 1 - (x + 1) = i - 1 - x by omega, show k + 1 - 1 - (x + 1) = k - 1 - x by omega] at this
            exact this
        · rw [if_neg e]
          refine ⟨fun h => by omega, fun h => ?_⟩
          have := h.2.2 0 (by omega)
          exact absurd (by simpa using this) e
theorem lK_ge {f g : Nat → Int32} {m i r : Nat} (h0 : 0 < r) : ∀ c, c ≤ m → (r ≤ lK f g m i c ↔ ∃ k, m < k + c ∧ k ≤ m ∧ r ≤ bR f g (i + 1) k) := by
  intro c
  induction c with
  | zero => intro _; rw [lK]; exact ⟨fun h => by omega, fun ⟨k, h1, h2, _⟩ => by omega⟩
  | succ c ih =>
    intro hc
    rw [lK]
    constructor
    · intro h
      by_cases e : r ≤ lK f g m i c
      · obtain ⟨k, h1, h2, h3⟩ := (ih (by omega)).mp e
        exact ⟨k, by omega, h2, h3⟩
      · exact ⟨m - c, by omega, by omega, by omega⟩
    · rintro ⟨k, h1, h2, h3⟩
      by_cases e : m < k + c
      · have := (ih (by omega)).mpr ⟨k, e, h2, h3⟩
        omega
      · rw [show k = m - c by omega] at h3
        omega
theorem lI_ge {f g : Nat → Int32} {m r : Nat} (h0 : 0 < r) : ∀ i, r ≤ lI f g m i ↔ ∃ i2 k, i2 < i ∧ k ≤ m ∧ r ≤ bR f g (i2 + 1) k := by
  intro i
  induction i with
  | zero => rw [lI]; exact ⟨fun h => by omega, fun ⟨_, _, h, _⟩ => by omega⟩
  | succ i ih =>
    rw [lI]
    constructor
    · intro h
      by_cases e : r ≤ lI f g m i
      · obtain ⟨i2, k, h1, h2, h3⟩ := ih.mp e
        exact ⟨i2, k, by omega, h2, h3⟩
      · obtain ⟨k, h1, h2, h3⟩ := (lK_ge h0 m (Nat.le_refl _)).mp (show r ≤ lK f g m i m by omega)
        exact ⟨i, k, by omega, h2, h3⟩
    · rintro ⟨i2, k, h1, h2, h3⟩
      by_cases e : i2 < i
      · have := ih.mpr ⟨i2, k, e, h2, h3⟩
        omega
      · have e2 : i2 = i := by omega
        subst e2
        by_cases hk : k = 0
        · subst hk; rw [bR] at h3; omega
        · have := (lK_ge (f := f) (g := g) (m := m) (i := i2) h0 m (Nat.le_refl _)).mpr ⟨k, by omega, h2, h3⟩
          omega
theorem cmJ_ge {f g : Nat → Int32} {n m i r : Nat} (h0 : 0 < r) : ∀ j, r ≤ cmJ f g n m i j ↔ ∃ j2, j2 < j ∧ r ≤ sl f g n m i j2 24 := by
  intro j
  induction j with
  | zero => rw [cmJ]; exact ⟨fun h => by omega, fun ⟨_, h, _⟩ => by omega⟩
  | succ j ih =>
    rw [cmJ]
    constructor
    · intro h
      by_cases e : r ≤ cmJ f g n m i j
      · obtain ⟨j2, h1, h2⟩ := ih.mp e
        exact ⟨j2, by omega, h2⟩
      · exact ⟨j, by omega, by omega⟩
    · rintro ⟨j2, h1, h2⟩
      by_cases e : j2 < j
      · have := ih.mpr ⟨j2, e, h2⟩
        omega
      · rw [show j2 = j by omega] at h2
        omega
theorem cmI_ge {f g : Nat → Int32} {n m r : Nat} (h0 : 0 < r) : ∀ i, r ≤ cmI f g n m i ↔ ∃ i2 j, i2 < i ∧ j < m ∧ r ≤ sl f g n m i2 j 24 := by
  intro i
  induction i with
  | zero => rw [cmI]; exact ⟨fun h => by omega, fun ⟨_, _, h, _⟩ => by omega⟩
  | succ i ih =>
    rw [cmI]
    constructor
    · intro h
      by_cases e : r ≤ cmI f g n m i
      · obtain ⟨i2, j, h1, h2, h3⟩ := ih.mp e
        exact ⟨i2, j, by omega, h2, h3⟩
      · obtain ⟨j, h1, h2⟩ := (cmJ_ge h0 m).mp (show r ≤ cmJ f g n m i m by omega)
        exact ⟨i, j, by omega, h1, h2⟩
    · rintro ⟨i2, j, h1, h2, h3⟩
      by_cases e : i2 < i
      · have := ih.mpr ⟨i2, j, e, h2, h3⟩
        omega
      · rw [show i2 = i by omega] at h3
        have := (cmJ_ge (f := f) (g := g) (n := n) (m := m) (i := i) h0 m).mpr ⟨j, h2, h3⟩
        omega
theorem le_ext {a b : Nat} (h : ∀ r, 0 < r → (r ≤ a ↔ r ≤ b)) : a = b := by
  by_cases ha : a = 0
  · by_cases hb : b = 0
    · omega
    · have := (h b (by omega)).mpr (Nat.le_refl _); omega
  · have h1 := (h a (by omega)).mp (Nat.le_refl _)
    by_cases hb : b = 0
    · omega
    · have h2 := (h b (by omega)).mpr (Nat.le_refl _); omega
theorem lI_cm {f g : Nat → Int32} {n m : Nat} (hn : n ≤ 24) : lI f g m n = cmI f g n m n := by
  refine le_ext (fun r h0 => ?_)
  rw [lI_ge h0, cmI_ge h0]
  constructor
  · rintro ⟨i, k, h1, h2, h3⟩
    obtain ⟨g1, g2, g3⟩ := (bR_ge _ _ _).mp h3
    refine ⟨i + 1 - r, k - r, by omega, by omega, (sl_ge _ _ _ _).mpr ⟨by omega, fun x hx => ⟨by omega, by omega, ?_⟩⟩⟩
    have := g3 (r - 1 - x) (by omega)
    rw [show i + 1 - 1 - (r - 1 - x) = i + 1 - r + x by omega, show k - 1 - (r - 1 - x) = k - r + x by omega] at this
    exact this
  · rintro ⟨i, j, h1, h2, h3⟩
    obtain ⟨g1, g2⟩ := (sl_ge _ _ _ _).mp h3
    have g4 := g2 (r - 1) (by omega)
    refine ⟨i + r - 1, j + r, by omega, by omega, (bR_ge _ _ _).mpr ⟨by omega, by omega, fun x hx => ?_⟩⟩
    have := (g2 (r - 1 - x) (by omega)).2.2
    rw [show i + r - 1 + 1 - 1 - x = i + (r - 1 - x) by omega, show j + r - 1 - x = j + (r - 1 - x) by omega]
    exact this
theorem bR_le {f g : Nat → Int32} {i k : Nat} : bR f g i k ≤ i := ((bR_ge i k _).mp (Nat.le_refl _)).1
theorem lK_le {f g : Nat → Int32} {m i : Nat} : ∀ c, lK f g m i c ≤ i + 1
  | 0 => Nat.zero_le _
  | c + 1 => Nat.max_le.mpr ⟨lK_le c, bR_le⟩
theorem lI_le {f g : Nat → Int32} {m : Nat} : ∀ i, lI f g m i ≤ i
  | 0 => Nat.le_refl _
  | i + 1 => Nat.max_le.mpr ⟨Nat.le_succ_of_le (lI_le i), lK_le m⟩
theorem bR_0 {f g : Nat → Int32} {i : Nat} : bR f g i 0 = 0 := by cases i <;> rfl
theorem bR_s {f g : Nat → Int32} {i k : Nat} (h : 0 < k) : bR f g (i + 1) k = if f i = g (k - 1) then bR f g i (k - 1) + 1 else 0 := by
  cases k with
  | zero => omega
  | succ k => rfl
set_option maxRecDepth 100000 in
set_option maxHeartbeats 4000000 in
theorem n_isTitle {G : mG} {M : mM} {m sa ha c xa tl ra la qa al ka rm pa za wa ua ap nu be en : Nat} {fs fe cm : Int32} (hO : M m = some (300, .inl (8, nL sa ha c xa tl ra la qa al ka rm pa fs fe za wa ua ap cm nu be en))) {S : Nat → Int32} (hS : M sa = some (301, .inr (0, 444, .inl S))) {T mo od ql : Nat} {q : Nat → Int32} {ln : Nat → Nat} {fl : Nat → Nat → Int32} {us : Nat → Int32} (hx : SR S T mo od ql q ln fl us) (hok : okX T mo od ql q ln fl) {a : Int32} : CC G iX7_isTitle 0 0 [.ref m, .int a] M (fun r M1 => r = some (.int (mB (isIx a T))) ∧ M = M1) := by
  refine CC.of rfl (Nat.le_of_ble_eq_true rfl) rfl (fun X C Tr => ?_)
  show V X 0 0 0 [some (.ref m), some (.int a)] [] M
  have hx8 := hx
  obtain ⟨hx0, hx1, hx2, hx3, hxq, hxt⟩ := hx
  have hT16 := hok.T16
  have hm4 := hok.m4
  have ho3 := hok.o3
  have hq24 := hok.q24
  refine s_iload_n C 1 dX7_isTitle_0 rfl rfl ?_
  refine s_iconst C 2 (nI 0) dX7_isTitle_1 rfl (by decide) ?_
  refine s_aload_n C 3 dX7_isTitle_2 rfl rfl ?_
  refine s_getf C 6 dX7_isTitle_3 rfl f_X7_7 hO rfl ?_
  refine s_iconst C 7 (nI 0) dX7_isTitle_6 rfl (by decide) ?_
  refine s_iald C 8 dX7_isTitle_7 rfl hS (by omega) (by omega) ?_
  rw [hx0]
  refine s_iconst C 9 (nI 1) dX7_isTitle_8 rfl (by decide) ?_
  refine s_isub C 10 dX7_isTitle_9 rfl ?_
  refine s_invS C 13 0 0 [] dX7_isTitle_10 rfl m_X7_47 (n_within) rfl rfl rfl ⟨by decide, by decide⟩ (Nat.le_of_ble_eq_true rfl) (by omega) (by omega) ?_
  rintro _ M1 ⟨rfl, rfl⟩
  dsimp only [Option.toList, List.cons_append, List.nil_append]
  rw [wiB_ix (by omega)]
  exact s_zret C dX7_isTitle_13 Tr rfl (mB_z _) ⟨rfl, rfl⟩

set_option maxRecDepth 100000 in
set_option maxHeartbeats 4000000 in
theorem n_words {G : mG} {M : mM} {m sa ha c xa tl ra la qa al ka rm pa za wa ua ap nu be en : Nat} {fs fe cm : Int32} (hO : M m = some (300, .inl (8, nL sa ha c xa tl ra la qa al ka rm pa fs fe za wa ua ap cm nu be en))) {S : Nat → Int32} (hS : M sa = some (301, .inr (0, 444, .inl S))) {T mo od ql : Nat} {q : Nat → Int32} {ln : Nat → Nat} {fl : Nat → Nat → Int32} {us : Nat → Int32} (hx : SR S T mo od ql q ln fl us) (hok : okX T mo od ql q ln fl) {t : Nat} (ht : t < T) : CC G iX7_words 0 0 [.ref m, .int (nI t)] M (fun r M1 => r = some (.int (nI (1 + cnB (fl t) (ln t)))) ∧ M = M1) := by
  refine CC.of rfl (Nat.le_of_ble_eq_true rfl) rfl (fun X C Tr => ?_)
  show V X 0 0 0 [some (.ref m), some (.int (nI t)), none, none] [] M
  have hx8 := hx
  obtain ⟨hx0, hx1, hx2, hx3, hxq, hxt⟩ := hx
  have hT16 := hok.T16
  have hm4 := hok.m4
  have ho3 := hok.o3
  have hq24 := hok.q24
  have hl24 := (hok.V t ht).2.1
  refine s_iconst C 1 (nI 0) dX7_words_0 rfl (by decide) ?_
  refine s_istore_n C 2 dX7_words_1 rfl rfl rfl ?_
  dsimp only [List.set]
  refine s_iconst C 3 (nI 0) dX7_words_2 rfl (by decide) ?_
  refine s_istore_n C 4 dX7_words_3 rfl rfl rfl ?_
  dsimp only [List.set]
  suffices lp4 : ∀ (fu4 : Nat) (k : Nat), ln t - k < fu4 → k ≤ ln t → V X 0 0 4 [some (.ref m), some (.int (nI t)), some (.int (nI (wsN (fl t) k))), some (.int (nI k))] [] M from lp4 (ln t + 1) 0 (by omega) (by omega)
  intro fu4
  induction fu4 with
  | zero => intro k hk0 hk; omega
  | succ fu4 ih4 =>
    intro k hk0 hk
    have hws := wsN_le (f := fl t) k
    refine s_iload_n C 5 dX7_words_4 rfl rfl ?_
    refine s_aload_n C 6 dX7_words_5 rfl rfl ?_
    refine s_iload_n C 7 dX7_words_6 rfl rfl ?_
    refine s_invV C 10 0 0 [.int (nI k)] (mRv_of hO rfl) dX7_words_7 rfl m_X7_58 (n_len hO hS hx8 (t := t) (by omega) hT16) rfl rfl rfl ⟨by decide, by decide⟩ (Nat.le_of_ble_eq_true rfl) (by omega) (by omega) ?_
    rintro _ M1 ⟨rfl, rfl⟩
    dsimp only [Option.toList, List.cons_append, List.nil_append]
    refine s_icmp_geN C 36 13 dX7_words_10 (by decide) rfl (by omega) (by omega) (fun z10 => ?_) (fun z10 => ?_)
    · skip
      have hke : k = ln t := by omega
      refine s_iload_n C 37 dX7_words_36 rfl rfl ?_
      exact s_iret C dX7_words_37 Tr rfl ⟨by rw [hke, (hok.V t ht).im], rfl⟩
    · skip
      refine s_iload_n C 14 dX7_words_13 rfl rfl ?_
      refine s_aload_n C 15 dX7_words_14 rfl rfl ?_
      refine s_iload_n C 16 dX7_words_15 rfl rfl ?_
      refine s_iload_n C 17 dX7_words_16 rfl rfl ?_
      refine s_invV C 20 0 0 [.int (nI (wsN (fl t) k))] (mRv_of hO rfl) dX7_words_17 rfl m_X7_62 (n_begins hO hS hx8 hok (t := t) (k := k) (by omega) (by omega)) rfl rfl rfl ⟨by decide, by decide⟩ (Nat.le_of_ble_eq_true rfl) (by omega) (by omega) ?_
      rintro _ M2 ⟨rfl, rfl⟩
      dsimp only [Option.toList, List.cons_append, List.nil_append]
      refine s_if_eqB C 27 23 dX7_words_20 (by decide) rfl (fun z20 => ?_) (fun z20 => ?_)
      · skip
        refine s_iconst C 28 (nI 0) dX7_words_27 rfl (by decide) ?_
        refine s_iaddN C 29 dX7_words_28 rfl ?_
        refine s_istore_n C 30 dX7_words_29 rfl rfl rfl ?_
        dsimp only [List.set]
        refine s_iinc C 33 (nI (k + 1)) dX7_words_30 rfl rfl (by rw [← nI_add]; rfl) rfl ?_
        dsimp only [List.set]
        refine s_goto C 4 dX7_words_33 (by decide) ?_
        rw [show (wsN (fl t) k) + 0 = wsN (fl t) (k + 1) by rw [wsN, z20]; rfl]
        exact ih4 (k + 1) (by omega) (by omega)
      · skip
        refine s_iconst C 24 (nI 1) dX7_words_23 rfl (by decide) ?_
        refine s_goto C 28 dX7_words_24 (by decide) ?_
        refine s_iaddN C 29 dX7_words_28 rfl ?_
        refine s_istore_n C 30 dX7_words_29 rfl rfl rfl ?_
        dsimp only [List.set]
        refine s_iinc C 33 (nI (k + 1)) dX7_words_30 rfl rfl (by rw [← nI_add]; rfl) rfl ?_
        dsimp only [List.set]
        refine s_goto C 4 dX7_words_33 (by decide) ?_
        rw [show (wsN (fl t) k) + 1 = wsN (fl t) (k + 1) by rw [wsN, z20]; rfl]
        exact ih4 (k + 1) (by omega) (by omega)

set_option maxRecDepth 100000 in
set_option maxHeartbeats 4000000 in
theorem n_isThere {G : mG} {M : mM} {m sa ha c xa tl ra la qa al ka rm pa za wa ua ap nu be en : Nat} {fs fe cm : Int32} (hO : M m = some (300, .inl (8, nL sa ha c xa tl ra la qa al ka rm pa fs fe za wa ua ap cm nu be en))) {S : Nat → Int32} (hS : M sa = some (301, .inr (0, 444, .inl S))) {T mo od ql : Nat} {q : Nat → Int32} {ln : Nat → Nat} {fl : Nat → Nat → Int32} {us : Nat → Int32} (hx : SR S T mo od ql q ln fl us) (hok : okX T mo od ql q ln fl) {xt g : Nat → Int32} (hX : M xa = some (303, .inr (0, 80, .inl xt))) (hXg : ∀ k, k < tl → xt k = g k) (htl : tl ≤ 80) {fr to : Nat} (hft : fr ≤ to) (hto : to ≤ tl)  : CC G iX7_isThere 0 0 [.ref m, .int (nI fr), .int (nI to)] M (fun r M1 => r = some (.int (mB (dupB T ln fl (fun j => g (fr + j)) (to - fr)))) ∧ M = M1) := by
  refine CC.of rfl (Nat.le_of_ble_eq_true rfl) rfl (fun X C Tr => ?_)
  show V X 0 0 0 [some (.ref m), some (.int (nI fr)), some (.int (nI to)), none, none, none, none] [] M
  have hx8 := hx
  obtain ⟨hx0, hx1, hx2, hx3, hxq, hxt⟩ := hx
  have hT16 := hok.T16
  have hm4 := hok.m4
  have ho3 := hok.o3
  have hq24 := hok.q24
  refine s_iconst C 1 (nI 0) dX7_isThere_0 rfl (by decide) ?_
  refine s_istore_n C 2 dX7_isThere_1 rfl rfl rfl ?_
  dsimp only [List.set]
  refine s_iconst C 3 (nI 0) dX7_isThere_2 rfl (by decide) ?_
  refine s_istore C 5 dX7_isThere_3 rfl rfl rfl ?_
  dsimp only [List.set]
  suffices lp5 : ∀ (fu5 : Nat) (t : Nat) (b : Bool), T - t < fu5 → t ≤ T → b = dupB t ln fl (fun j => g (fr + j)) (to - fr) → V X 0 0 5 [some (.ref m), some (.int (nI fr)), some (.int (nI to)), some (.int (mB b)), some (.int (nI t)), none, none] [] M from lp5 (T + 1) 0 false (by omega) (by omega) dupB_0.symm
  intro fu5
  induction fu5 with
  | zero => intro t b ht0 ht hb; omega
  | succ fu5 ih5 =>
    intro t b ht0 ht hb
    refine s_iload C 7 dX7_isThere_5 rfl rfl ?_
    refine s_aload_n C 8 dX7_isThere_7 rfl rfl ?_
    refine s_getf C 11 dX7_isThere_8 rfl f_X7_7 hO rfl ?_
    refine s_iconst C 12 (nI 0) dX7_isThere_11 rfl (by decide) ?_
    refine s_iald C 13 dX7_isThere_12 rfl hS (by omega) (by omega) ?_
    rw [hx0]
    refine s_icmp_geN C 108 16 dX7_isThere_13 (by decide) rfl (by omega) (by omega) (fun z13 => ?_) (fun z13 => ?_)
    · skip
      have hte : t = T := by omega
      refine s_iload_n C 109 dX7_isThere_108 rfl rfl ?_
      exact s_zret C dX7_isThere_109 Tr rfl (mB_z _) ⟨by rw [hb, hte], rfl⟩
    · skip
      have hl24 := (hok.V t (by omega)).2.1
      refine s_aload_n C 17 dX7_isThere_16 rfl rfl ?_
      refine s_iload C 19 dX7_isThere_17 rfl rfl ?_
      refine s_invV C 22 0 0 [] (mRv_of hO rfl) dX7_isThere_19 rfl m_X7_58 (n_len hO hS hx8 (t := t) (by omega) hT16) rfl rfl rfl ⟨by decide, by decide⟩ (Nat.le_of_ble_eq_true rfl) (by omega) (by omega) ?_
      rintro _ M1 ⟨rfl, rfl⟩
      dsimp only [Option.toList, List.cons_append, List.nil_append]
      refine s_iload_n C 23 dX7_isThere_22 rfl rfl ?_
      refine s_iload_n C 24 dX7_isThere_23 rfl rfl ?_
      refine s_isubN C 25 dX7_isThere_24 rfl (by omega) ?_
      refine s_icmp_neN C 32 28 dX7_isThere_25 (by decide) rfl (by omega) (by omega) (fun z25 => ?_) (fun z25 => ?_)
      · skip
        refine s_iconst C 33 (nI 0) dX7_isThere_32 rfl (by decide) ?_
        refine s_istore C 35 dX7_isThere_33 rfl rfl rfl ?_
        dsimp only [List.set]
        refine s_iconst C 36 (nI 0) dX7_isThere_35 rfl (by decide) ?_
        refine s_istore C 38 dX7_isThere_36 rfl rfl rfl ?_
        dsimp only [List.set]
        have htT : t < T := by omega
        have hl24 := (hok.V t htT).2.1
        suffices lp38 : ∀ (fu38 : Nat) (k : Nat) (b2 : Bool), ln t - k < fu38 → k ≤ ln t → b2 = (decide (ln t = to - fr) && mtB (fl t) (fun j => g (fr + j)) k 0) → V X 0 0 38 [some (.ref m), some (.int (nI fr)), some (.int (nI to)), some (.int (mB b)), some (.int (nI t)), some (.int (mB b2)), some (.int (nI k))] [] M from lp38 (ln t + 1) 0 false (by omega) (by omega) (by rw [decide_eq_false (by omega)]; unfold mtB; simp)
        intro fu38
        induction fu38 with
        | zero => intro k b2 hk0 hk hb2; omega
        | succ fu38 ih38 =>
          intro k b2 hk0 hk hb2
          refine s_iload C 40 dX7_isThere_38 rfl rfl ?_
          refine s_aload_n C 41 dX7_isThere_40 rfl rfl ?_
          refine s_iload C 43 dX7_isThere_41 rfl rfl ?_
          refine s_invV C 46 0 0 [.int (nI k)] (mRv_of hO rfl) dX7_isThere_43 rfl m_X7_58 (n_len hO hS hx8 (t := t) (by omega) hT16) rfl rfl rfl ⟨by decide, by decide⟩ (Nat.le_of_ble_eq_true rfl) (by omega) (by omega) ?_
          rintro _ M2 ⟨rfl, rfl⟩
          dsimp only [Option.toList, List.cons_append, List.nil_append]
          refine s_icmp_geN C 87 49 dX7_isThere_46 (by decide) rfl (by omega) (by omega) (fun z46 => ?_) (fun z46 => ?_)
          · skip
            have heq : eqT (fl t) (fun j => g (fr + j)) (ln t) (to - fr) = b2 := by rw [hb2, show k = ln t by omega]; rfl
            refine s_iload_n C 88 dX7_isThere_87 rfl rfl ?_
            refine s_if_neB C 96 91 dX7_isThere_88 (by decide) rfl (fun z88 => ?_) (fun z88 => ?_)
            · skip
              refine s_iconst C 97 (nI 1) dX7_isThere_96 rfl (by decide) ?_
              refine s_goto C 101 dX7_isThere_97 (by decide) ?_
              refine s_istore_n C 102 dX7_isThere_101 rfl rfl rfl ?_
              dsimp only [List.set]
              refine s_iinc C 105 (nI (t + 1)) dX7_isThere_102 rfl rfl (by rw [← nI_add]; rfl) rfl ?_
              dsimp only [List.set]
              refine s_goto C 5 dX7_isThere_105 (by decide) ?_
              refine V.drop 5 ?_
              dsimp only [List.set]
              refine V.drop 6 ?_
              dsimp only [List.set]
              exact ih5 (t + 1) true (by omega) (by omega) (by rw [dupB_step, ← hb, heq, z88] <;> rfl)
            · skip
              refine s_iload C 93 dX7_isThere_91 rfl rfl ?_
              refine s_if_eqB C 100 96 dX7_isThere_93 (by decide) rfl (fun z93 => ?_) (fun z93 => ?_)
              · skip
                refine s_iconst C 101 (nI 0) dX7_isThere_100 rfl (by decide) ?_
                refine s_istore_n C 102 dX7_isThere_101 rfl rfl rfl ?_
                dsimp only [List.set]
                refine s_iinc C 105 (nI (t + 1)) dX7_isThere_102 rfl rfl (by rw [← nI_add]; rfl) rfl ?_
                dsimp only [List.set]
                refine s_goto C 5 dX7_isThere_105 (by decide) ?_
                refine V.drop 5 ?_
                dsimp only [List.set]
                refine V.drop 6 ?_
                dsimp only [List.set]
                exact ih5 (t + 1) false (by omega) (by omega) (by rw [dupB_step, ← hb, heq, z88, z93] <;> rfl)
              · skip
                refine s_iconst C 97 (nI 1) dX7_isThere_96 rfl (by decide) ?_
                refine s_goto C 101 dX7_isThere_97 (by decide) ?_
                refine s_istore_n C 102 dX7_isThere_101 rfl rfl rfl ?_
                dsimp only [List.set]
                refine s_iinc C 105 (nI (t + 1)) dX7_isThere_102 rfl rfl (by rw [← nI_add]; rfl) rfl ?_
                dsimp only [List.set]
                refine s_goto C 5 dX7_isThere_105 (by decide) ?_
                refine V.drop 5 ?_
                dsimp only [List.set]
                refine V.drop 6 ?_
                dsimp only [List.set]
                exact ih5 (t + 1) true (by omega) (by omega) (by rw [dupB_step, ← hb, heq, z88, z93] <;> rfl)
          · skip
            refine s_iload C 51 dX7_isThere_49 rfl rfl ?_
            refine s_if_eqB C 87 54 dX7_isThere_51 (by decide) rfl (fun z51 => ?_) (fun z51 => ?_)
            · skip
              have heq : eqT (fl t) (fun j => g (fr + j)) (ln t) (to - fr) = b2 := by rw [z51]; exact eqT_no hk (by rw [← hb2]; exact z51)
              refine s_iload_n C 88 dX7_isThere_87 rfl rfl ?_
              refine s_if_neB C 96 91 dX7_isThere_88 (by decide) rfl (fun z88 => ?_) (fun z88 => ?_)
              · skip
                refine s_iconst C 97 (nI 1) dX7_isThere_96 rfl (by decide) ?_
                refine s_goto C 101 dX7_isThere_97 (by decide) ?_
                refine s_istore_n C 102 dX7_isThere_101 rfl rfl rfl ?_
                dsimp only [List.set]
                refine s_iinc C 105 (nI (t + 1)) dX7_isThere_102 rfl rfl (by rw [← nI_add]; rfl) rfl ?_
                dsimp only [List.set]
                refine s_goto C 5 dX7_isThere_105 (by decide) ?_
                refine V.drop 5 ?_
                dsimp only [List.set]
                refine V.drop 6 ?_
                dsimp only [List.set]
                exact ih5 (t + 1) true (by omega) (by omega) (by rw [dupB_step, ← hb, heq, z88] <;> rfl)
              · skip
                refine s_iload C 93 dX7_isThere_91 rfl rfl ?_
                refine s_if_eqB C 100 96 dX7_isThere_93 (by decide) rfl (fun z93 => ?_) (fun z93 => ?_)
                · skip
                  refine s_iconst C 101 (nI 0) dX7_isThere_100 rfl (by decide) ?_
                  refine s_istore_n C 102 dX7_isThere_101 rfl rfl rfl ?_
                  dsimp only [List.set]
                  refine s_iinc C 105 (nI (t + 1)) dX7_isThere_102 rfl rfl (by rw [← nI_add]; rfl) rfl ?_
                  dsimp only [List.set]
                  refine s_goto C 5 dX7_isThere_105 (by decide) ?_
                  refine V.drop 5 ?_
                  dsimp only [List.set]
                  refine V.drop 6 ?_
                  dsimp only [List.set]
                  exact ih5 (t + 1) false (by omega) (by omega) (by rw [dupB_step, ← hb, heq, z88, z93] <;> rfl)
                · skip
                  refine s_iconst C 97 (nI 1) dX7_isThere_96 rfl (by decide) ?_
                  refine s_goto C 101 dX7_isThere_97 (by decide) ?_
                  refine s_istore_n C 102 dX7_isThere_101 rfl rfl rfl ?_
                  dsimp only [List.set]
                  refine s_iinc C 105 (nI (t + 1)) dX7_isThere_102 rfl rfl (by rw [← nI_add]; rfl) rfl ?_
                  dsimp only [List.set]
                  refine s_goto C 5 dX7_isThere_105 (by decide) ?_
                  refine V.drop 5 ?_
                  dsimp only [List.set]
                  refine V.drop 6 ?_
                  dsimp only [List.set]
                  exact ih5 (t + 1) true (by omega) (by omega) (by rw [dupB_step, ← hb, heq, z88, z93] <;> rfl)
            · skip
              have hle : ln t = to - fr := by rw [z51] at hb2; by_cases e : ln t = to - fr; (· exact e); rw [decide_eq_false e] at hb2; cases hb2
              refine s_aload_n C 55 dX7_isThere_54 rfl rfl ?_
              refine s_iload C 57 dX7_isThere_55 rfl rfl ?_
              refine s_iload C 59 dX7_isThere_57 rfl rfl ?_
              refine s_invV C 62 0 0 [] (mRv_of hO rfl) dX7_isThere_59 rfl m_X7_55 (n_char hO hS hx8 (t := t) (k := k) (by omega) hT16 (by omega) (hok.V _ (by omega)).2.1) rfl rfl rfl ⟨by decide, by decide⟩ (Nat.le_of_ble_eq_true rfl) (by omega) (by omega) ?_
              rintro _ M3 ⟨rfl, rfl⟩
              dsimp only [Option.toList, List.cons_append, List.nil_append]
              refine s_aload_n C 63 dX7_isThere_62 rfl rfl ?_
              refine s_getf C 66 dX7_isThere_63 rfl f_X7_16 hO rfl ?_
              refine s_iload_n C 67 dX7_isThere_66 rfl rfl ?_
              refine s_iload C 69 dX7_isThere_67 rfl rfl ?_
              refine s_iaddN C 70 dX7_isThere_69 rfl ?_
              refine s_iald C 71 dX7_isThere_70 rfl hX (by omega) (by omega) ?_
              rw [hXg (fr + k) (by omega)]
              refine s_icmp_ne C 78 74 dX7_isThere_71 (by decide) rfl (fun z71 => ?_) (fun z71 => ?_)
              · skip
                refine s_iconst C 79 (nI 0) dX7_isThere_78 rfl (by decide) ?_
                refine s_istore C 81 dX7_isThere_79 rfl rfl rfl ?_
                dsimp only [List.set]
                refine s_iinc C 84 (nI (k + 1)) dX7_isThere_81 rfl rfl (by rw [← nI_add]; rfl) rfl ?_
                dsimp only [List.set]
                refine s_goto C 38 dX7_isThere_84 (by decide) ?_
                exact ih38 (k + 1) false (by omega) (by omega) (by rw [mtB_s0, ← Bool.and_assoc, ← hb2, z51, decide_eq_false z71] <;> rfl)
              · skip
                refine s_iconst C 75 (nI 1) dX7_isThere_74 rfl (by decide) ?_
                refine s_goto C 79 dX7_isThere_75 (by decide) ?_
                refine s_istore C 81 dX7_isThere_79 rfl rfl rfl ?_
                dsimp only [List.set]
                refine s_iinc C 84 (nI (k + 1)) dX7_isThere_81 rfl rfl (by rw [← nI_add]; rfl) rfl ?_
                dsimp only [List.set]
                refine s_goto C 38 dX7_isThere_84 (by decide) ?_
                exact ih38 (k + 1) true (by omega) (by omega) (by rw [mtB_s0, ← Bool.and_assoc, ← hb2, z51, decide_eq_true z71] <;> rfl)
      · skip
        refine s_iconst C 29 (nI 1) dX7_isThere_28 rfl (by decide) ?_
        refine s_goto C 33 dX7_isThere_29 (by decide) ?_
        refine s_istore C 35 dX7_isThere_33 rfl rfl rfl ?_
        dsimp only [List.set]
        refine s_iconst C 36 (nI 0) dX7_isThere_35 rfl (by decide) ?_
        refine s_istore C 38 dX7_isThere_36 rfl rfl rfl ?_
        dsimp only [List.set]
        have htT : t < T := by omega
        have hl24 := (hok.V t htT).2.1
        suffices lp38 : ∀ (fu38 : Nat) (k : Nat) (b2 : Bool), ln t - k < fu38 → k ≤ ln t → b2 = (decide (ln t = to - fr) && mtB (fl t) (fun j => g (fr + j)) k 0) → V X 0 0 38 [some (.ref m), some (.int (nI fr)), some (.int (nI to)), some (.int (mB b)), some (.int (nI t)), some (.int (mB b2)), some (.int (nI k))] [] M from lp38 (ln t + 1) 0 true (by omega) (by omega) (by rw [decide_eq_true (by omega)]; unfold mtB; simp)
        intro fu38
        induction fu38 with
        | zero => intro k b2 hk0 hk hb2; omega
        | succ fu38 ih38 =>
          intro k b2 hk0 hk hb2
          refine s_iload C 40 dX7_isThere_38 rfl rfl ?_
          refine s_aload_n C 41 dX7_isThere_40 rfl rfl ?_
          refine s_iload C 43 dX7_isThere_41 rfl rfl ?_
          refine s_invV C 46 0 0 [.int (nI k)] (mRv_of hO rfl) dX7_isThere_43 rfl m_X7_58 (n_len hO hS hx8 (t := t) (by omega) hT16) rfl rfl rfl ⟨by decide, by decide⟩ (Nat.le_of_ble_eq_true rfl) (by omega) (by omega) ?_
          rintro _ M4 ⟨rfl, rfl⟩
          dsimp only [Option.toList, List.cons_append, List.nil_append]
          refine s_icmp_geN C 87 49 dX7_isThere_46 (by decide) rfl (by omega) (by omega) (fun z46 => ?_) (fun z46 => ?_)
          · skip
            have heq : eqT (fl t) (fun j => g (fr + j)) (ln t) (to - fr) = b2 := by rw [hb2, show k = ln t by omega]; rfl
            refine s_iload_n C 88 dX7_isThere_87 rfl rfl ?_
            refine s_if_neB C 96 91 dX7_isThere_88 (by decide) rfl (fun z88 => ?_) (fun z88 => ?_)
            · skip
              refine s_iconst C 97 (nI 1) dX7_isThere_96 rfl (by decide) ?_
              refine s_goto C 101 dX7_isThere_97 (by decide) ?_
              refine s_istore_n C 102 dX7_isThere_101 rfl rfl rfl ?_
              dsimp only [List.set]
              refine s_iinc C 105 (nI (t + 1)) dX7_isThere_102 rfl rfl (by rw [← nI_add]; rfl) rfl ?_
              dsimp only [List.set]
              refine s_goto C 5 dX7_isThere_105 (by decide) ?_
              refine V.drop 5 ?_
              dsimp only [List.set]
              refine V.drop 6 ?_
              dsimp only [List.set]
              exact ih5 (t + 1) true (by omega) (by omega) (by rw [dupB_step, ← hb, heq, z88] <;> rfl)
            · skip
              refine s_iload C 93 dX7_isThere_91 rfl rfl ?_
              refine s_if_eqB C 100 96 dX7_isThere_93 (by decide) rfl (fun z93 => ?_) (fun z93 => ?_)
              · skip
                refine s_iconst C 101 (nI 0) dX7_isThere_100 rfl (by decide) ?_
                refine s_istore_n C 102 dX7_isThere_101 rfl rfl rfl ?_
                dsimp only [List.set]
                refine s_iinc C 105 (nI (t + 1)) dX7_isThere_102 rfl rfl (by rw [← nI_add]; rfl) rfl ?_
                dsimp only [List.set]
                refine s_goto C 5 dX7_isThere_105 (by decide) ?_
                refine V.drop 5 ?_
                dsimp only [List.set]
                refine V.drop 6 ?_
                dsimp only [List.set]
                exact ih5 (t + 1) false (by omega) (by omega) (by rw [dupB_step, ← hb, heq, z88, z93] <;> rfl)
              · skip
                refine s_iconst C 97 (nI 1) dX7_isThere_96 rfl (by decide) ?_
                refine s_goto C 101 dX7_isThere_97 (by decide) ?_
                refine s_istore_n C 102 dX7_isThere_101 rfl rfl rfl ?_
                dsimp only [List.set]
                refine s_iinc C 105 (nI (t + 1)) dX7_isThere_102 rfl rfl (by rw [← nI_add]; rfl) rfl ?_
                dsimp only [List.set]
                refine s_goto C 5 dX7_isThere_105 (by decide) ?_
                refine V.drop 5 ?_
                dsimp only [List.set]
                refine V.drop 6 ?_
                dsimp only [List.set]
                exact ih5 (t + 1) true (by omega) (by omega) (by rw [dupB_step, ← hb, heq, z88, z93] <;> rfl)
          · skip
            refine s_iload C 51 dX7_isThere_49 rfl rfl ?_
            refine s_if_eqB C 87 54 dX7_isThere_51 (by decide) rfl (fun z51 => ?_) (fun z51 => ?_)
            · skip
              have heq : eqT (fl t) (fun j => g (fr + j)) (ln t) (to - fr) = b2 := by rw [z51]; exact eqT_no hk (by rw [← hb2]; exact z51)
              refine s_iload_n C 88 dX7_isThere_87 rfl rfl ?_
              refine s_if_neB C 96 91 dX7_isThere_88 (by decide) rfl (fun z88 => ?_) (fun z88 => ?_)
              · skip
                refine s_iconst C 97 (nI 1) dX7_isThere_96 rfl (by decide) ?_
                refine s_goto C 101 dX7_isThere_97 (by decide) ?_
                refine s_istore_n C 102 dX7_isThere_101 rfl rfl rfl ?_
                dsimp only [List.set]
                refine s_iinc C 105 (nI (t + 1)) dX7_isThere_102 rfl rfl (by rw [← nI_add]; rfl) rfl ?_
                dsimp only [List.set]
                refine s_goto C 5 dX7_isThere_105 (by decide) ?_
                refine V.drop 5 ?_
                dsimp only [List.set]
                refine V.drop 6 ?_
                dsimp only [List.set]
                exact ih5 (t + 1) true (by omega) (by omega) (by rw [dupB_step, ← hb, heq, z88] <;> rfl)
              · skip
                refine s_iload C 93 dX7_isThere_91 rfl rfl ?_
                refine s_if_eqB C 100 96 dX7_isThere_93 (by decide) rfl (fun z93 => ?_) (fun z93 => ?_)
                · skip
                  refine s_iconst C 101 (nI 0) dX7_isThere_100 rfl (by decide) ?_
                  refine s_istore_n C 102 dX7_isThere_101 rfl rfl rfl ?_
                  dsimp only [List.set]
                  refine s_iinc C 105 (nI (t + 1)) dX7_isThere_102 rfl rfl (by rw [← nI_add]; rfl) rfl ?_
                  dsimp only [List.set]
                  refine s_goto C 5 dX7_isThere_105 (by decide) ?_
                  refine V.drop 5 ?_
                  dsimp only [List.set]
                  refine V.drop 6 ?_
                  dsimp only [List.set]
                  exact ih5 (t + 1) false (by omega) (by omega) (by rw [dupB_step, ← hb, heq, z88, z93] <;> rfl)
                · skip
                  refine s_iconst C 97 (nI 1) dX7_isThere_96 rfl (by decide) ?_
                  refine s_goto C 101 dX7_isThere_97 (by decide) ?_
                  refine s_istore_n C 102 dX7_isThere_101 rfl rfl rfl ?_
                  dsimp only [List.set]
                  refine s_iinc C 105 (nI (t + 1)) dX7_isThere_102 rfl rfl (by rw [← nI_add]; rfl) rfl ?_
                  dsimp only [List.set]
                  refine s_goto C 5 dX7_isThere_105 (by decide) ?_
                  refine V.drop 5 ?_
                  dsimp only [List.set]
                  refine V.drop 6 ?_
                  dsimp only [List.set]
                  exact ih5 (t + 1) true (by omega) (by omega) (by rw [dupB_step, ← hb, heq, z88, z93] <;> rfl)
            · skip
              have hle : ln t = to - fr := by rw [z51] at hb2; by_cases e : ln t = to - fr; (· exact e); rw [decide_eq_false e] at hb2; cases hb2
              refine s_aload_n C 55 dX7_isThere_54 rfl rfl ?_
              refine s_iload C 57 dX7_isThere_55 rfl rfl ?_
              refine s_iload C 59 dX7_isThere_57 rfl rfl ?_
              refine s_invV C 62 0 0 [] (mRv_of hO rfl) dX7_isThere_59 rfl m_X7_55 (n_char hO hS hx8 (t := t) (k := k) (by omega) hT16 (by omega) (hok.V _ (by omega)).2.1) rfl rfl rfl ⟨by decide, by decide⟩ (Nat.le_of_ble_eq_true rfl) (by omega) (by omega) ?_
              rintro _ M5 ⟨rfl, rfl⟩
              dsimp only [Option.toList, List.cons_append, List.nil_append]
              refine s_aload_n C 63 dX7_isThere_62 rfl rfl ?_
              refine s_getf C 66 dX7_isThere_63 rfl f_X7_16 hO rfl ?_
              refine s_iload_n C 67 dX7_isThere_66 rfl rfl ?_
              refine s_iload C 69 dX7_isThere_67 rfl rfl ?_
              refine s_iaddN C 70 dX7_isThere_69 rfl ?_
              refine s_iald C 71 dX7_isThere_70 rfl hX (by omega) (by omega) ?_
              rw [hXg (fr + k) (by omega)]
              refine s_icmp_ne C 78 74 dX7_isThere_71 (by decide) rfl (fun z71 => ?_) (fun z71 => ?_)
              · skip
                refine s_iconst C 79 (nI 0) dX7_isThere_78 rfl (by decide) ?_
                refine s_istore C 81 dX7_isThere_79 rfl rfl rfl ?_
                dsimp only [List.set]
                refine s_iinc C 84 (nI (k + 1)) dX7_isThere_81 rfl rfl (by rw [← nI_add]; rfl) rfl ?_
                dsimp only [List.set]
                refine s_goto C 38 dX7_isThere_84 (by decide) ?_
                exact ih38 (k + 1) false (by omega) (by omega) (by rw [mtB_s0, ← Bool.and_assoc, ← hb2, z51, decide_eq_false z71] <;> rfl)
              · skip
                refine s_iconst C 75 (nI 1) dX7_isThere_74 rfl (by decide) ?_
                refine s_goto C 79 dX7_isThere_75 (by decide) ?_
                refine s_istore C 81 dX7_isThere_79 rfl rfl rfl ?_
                dsimp only [List.set]
                refine s_iinc C 84 (nI (k + 1)) dX7_isThere_81 rfl rfl (by rw [← nI_add]; rfl) rfl ?_
                dsimp only [List.set]
                refine s_goto C 38 dX7_isThere_84 (by decide) ?_
                exact ih38 (k + 1) true (by omega) (by omega) (by rw [mtB_s0, ← Bool.and_assoc, ← hb2, z51, decide_eq_true z71] <;> rfl)

set_option maxRecDepth 100000 in
set_option maxHeartbeats 4000000 in
theorem n_whyNot {G : mG} {M : mM} {m sa ha c xa tl ra la qa al ka rm pa za wa ua ap nu be en : Nat} {fs fe cm : Int32} (hO : M m = some (300, .inl (8, nL sa ha c xa tl ra la qa al ka rm pa fs fe za wa ua ap cm nu be en))) {S : Nat → Int32} (hS : M sa = some (301, .inr (0, 444, .inl S))) {T mo od ql : Nat} {q : Nat → Int32} {ln : Nat → Nat} {fl : Nat → Nat → Int32} {us : Nat → Int32} (hx : SR S T mo od ql q ln fl us) (hok : okX T mo od ql q ln fl) {xt g : Nat → Int32} (hX : M xa = some (303, .inr (0, 80, .inl xt))) (hXg : ∀ k, k < tl → xt k = g k) (htl : tl ≤ 80) {fr to : Nat} (hft : fr ≤ to) (hto : to ≤ tl)  : CC G iX7_whyNotAdded 0 0 [.ref m, .int (nI fr), .int (nI to)] M (fun r M1 => r = some (.int (refV T ln fl (fun j => g (fr + j)) (to - fr))) ∧ M = M1) := by
  refine CC.of rfl (Nat.le_of_ble_eq_true rfl) rfl (fun X C Tr => ?_)
  show V X 0 0 0 [some (.ref m), some (.int (nI fr)), some (.int (nI to))] [] M
  have hx8 := hx
  obtain ⟨hx0, hx1, hx2, hx3, hxq, hxt⟩ := hx
  have hT16 := hok.T16
  have hm4 := hok.m4
  have ho3 := hok.o3
  have hq24 := hok.q24
  refine s_aload_n C 1 dX7_whyNotAdded_0 rfl rfl ?_
  refine s_iload_n C 2 dX7_whyNotAdded_1 rfl rfl ?_
  refine s_iload_n C 3 dX7_whyNotAdded_2 rfl rfl ?_
  refine s_invV C 6 0 0 [] (mRv_of hO rfl) dX7_whyNotAdded_3 rfl m_X7_204 (n_isThere hO hS hx8 hok hX hXg htl hft hto) rfl rfl rfl ⟨by decide, by decide⟩ (Nat.le_of_ble_eq_true rfl) (by omega) (by omega) ?_
  rintro _ M1 ⟨rfl, rfl⟩
  dsimp only [Option.toList, List.cons_append, List.nil_append]
  refine s_if_eqB C 14 9 dX7_whyNotAdded_6 (by decide) rfl (fun z6 => ?_) (fun z6 => ?_)
  · skip
    refine s_aload_n C 15 dX7_whyNotAdded_14 rfl rfl ?_
    refine s_getf C 18 dX7_whyNotAdded_15 rfl f_X7_7 hO rfl ?_
    refine s_iconst C 19 (nI 0) dX7_whyNotAdded_18 rfl (by decide) ?_
    refine s_iald C 20 dX7_whyNotAdded_19 rfl hS (by omega) (by omega) ?_
    rw [hx0]
    refine s_bipush C 22 (nI 16) dX7_whyNotAdded_20 rfl (by decide) ?_
    refine s_icmp_neN C 30 25 dX7_whyNotAdded_22 (by decide) rfl (by omega) (by omega) (fun z22 => ?_) (fun z22 => ?_)
    · skip
      have hz : refV T ln fl (fun j => g (fr + j)) (to - fr) = nI 0 := by unfold refV; rw [if_neg (by rw [z6]; decide), if_neg (by omega)]
      refine s_iconst C 31 (nI 0) dX7_whyNotAdded_30 rfl (by decide) ?_
      exact s_iret C dX7_whyNotAdded_31 Tr rfl ⟨by rw [hz], rfl⟩
    · skip
      have hz : refV T ln fl (fun j => g (fr + j)) (to - fr) = -4 := by unfold refV; rw [if_neg (by rw [z6]; decide), if_pos (by omega)]
      refine s_bipush C 27 (-4) dX7_whyNotAdded_25 rfl (by decide) ?_
      refine s_goto C 31 dX7_whyNotAdded_27 (by decide) ?_
      exact s_iret C dX7_whyNotAdded_31 Tr rfl ⟨by rw [hz], rfl⟩
  · skip
    have hz : refV T ln fl (fun j => g (fr + j)) (to - fr) = -3 := by unfold refV; rw [if_pos z6]
    refine s_bipush C 11 (-3) dX7_whyNotAdded_9 rfl (by decide) ?_
    refine s_goto C 31 dX7_whyNotAdded_11 (by decide) ?_
    exact s_iret C dX7_whyNotAdded_31 Tr rfl ⟨by rw [hz], rfl⟩

set_option maxRecDepth 100000 in
set_option maxHeartbeats 4000000 in
theorem n_adds {G : mG} {M : mM} {m sa ha c xa tl ra la qa al ka rm pa za wa ua ap nu be en : Nat} {fs fe cm : Int32} (hO : M m = some (300, .inl (8, nL sa ha c xa tl ra la qa al ka rm pa fs fe za wa ua ap cm nu be en))) {S : Nat → Int32} (hS : M sa = some (301, .inr (0, 444, .inl S))) {T mo od ql : Nat} {q : Nat → Int32} {ln : Nat → Nat} {fl : Nat → Nat → Int32} {us : Nat → Int32} (hx : SR S T mo od ql q ln fl us) (hok : okX T mo od ql q ln fl) {xt g : Nat → Int32} (hX : M xa = some (303, .inr (0, 80, .inl xt))) (hXg : ∀ k, k < tl → xt k = g k) (htl : tl ≤ 80) {fr to : Nat} (hft : fr ≤ to) (hto : to ≤ tl) (h24 : to - fr ≤ 24) (hT15 : T < 16) : CC G iX7_adds 0 0 [.ref m, .int (nI fr), .int (nI to)] M (fun r M1 => r = some (.int (nI T)) ∧ (∃ S1 : Nat → Int32, M1 sa = some (301, .inr (0, 444, .inl S1)) ∧ SR S1 (T + 1) mo od ql q (adF ln T (to - fr)) (adF fl T (fun j => g (fr + j))) (adF us T (nI 0))) ∧ mZ [301] M M1) := by
  refine CC.of rfl (Nat.le_of_ble_eq_true rfl) rfl (fun X C Tr => ?_)
  show V X 0 0 0 [some (.ref m), some (.int (nI fr)), some (.int (nI to)), none, none, none] [] M
  have hx8 := hx
  obtain ⟨hx0, hx1, hx2, hx3, hxq, hxt⟩ := hx
  have hT16 := hok.T16
  have hm4 := hok.m4
  have ho3 := hok.o3
  have hq24 := hok.q24
  have hF : mZ [301] M M := mZ.rf
  refine s_aload_n C 1 dX7_adds_0 rfl rfl ?_
  refine s_getf C 4 dX7_adds_1 rfl f_X7_7 hO rfl ?_
  refine s_iconst C 5 (nI 0) dX7_adds_4 rfl (by decide) ?_
  refine s_iald C 6 dX7_adds_5 rfl hS (by omega) (by omega) ?_
  rw [hx0]
  refine s_istore_n C 7 dX7_adds_6 rfl rfl rfl ?_
  dsimp only [List.set]
  refine s_bipush C 9 (nI 28) dX7_adds_7 rfl (by decide) ?_
  refine s_bipush C 11 (nI 26) dX7_adds_9 rfl (by decide) ?_
  refine s_iload_n C 12 dX7_adds_11 rfl rfl ?_
  refine s_imulN C 13 dX7_adds_12 rfl ?_
  refine s_iaddN C 14 dX7_adds_13 rfl ?_
  refine s_istore C 16 dX7_adds_14 rfl rfl rfl ?_
  dsimp only [List.set]
  refine s_aload_n C 17 dX7_adds_16 rfl rfl ?_
  refine s_getf C 20 dX7_adds_17 rfl f_X7_7 hO rfl ?_
  refine s_iload C 22 dX7_adds_20 rfl rfl ?_
  refine s_iconst C 23 (nI 0) dX7_adds_22 rfl (by decide) ?_
  refine s_iaddN C 24 dX7_adds_23 rfl ?_
  refine s_iload_n C 25 dX7_adds_24 rfl rfl ?_
  refine s_iload_n C 26 dX7_adds_25 rfl rfl ?_
  refine s_isubN C 27 dX7_adds_26 rfl (by omega) ?_
  refine s_iastU C 28 dX7_adds_27 rfl hS (by first | decide | omega) (by omega) (by omega) (fun M1 U2 => ?_)
  have hO := U2.o hS hO (by first | decide | omega)
  have hX := U2.o hS hX (by first | decide | omega)
  have hF := hF.put U2 hS (by first | decide | (simp; done) | (simp; omega) | (simp [*]; done))
  have hS := U2.s
  refine s_aload_n C 29 dX7_adds_28 rfl rfl ?_
  refine s_getf C 32 dX7_adds_29 rfl f_X7_7 hO rfl ?_
  refine s_iload C 34 dX7_adds_32 rfl rfl ?_
  refine s_iconst C 35 (nI 1) dX7_adds_34 rfl (by decide) ?_
  refine s_iaddN C 36 dX7_adds_35 rfl ?_
  refine s_iconst C 37 (nI 0) dX7_adds_36 rfl (by decide) ?_
  refine s_iastU C 38 dX7_adds_37 rfl hS (by first | decide | omega) (by omega) (by omega) (fun M3 U4 => ?_)
  have hO := U4.o hS hO (by first | decide | omega)
  have hX := U4.o hS hX (by first | decide | omega)
  have hF := hF.put U4 hS (by first | decide | (simp; done) | (simp; omega) | (simp [*]; done))
  have hS := U4.s
  refine s_iconst C 39 (nI 0) dX7_adds_38 rfl (by decide) ?_
  refine s_istore C 41 dX7_adds_39 rfl rfl rfl ?_
  dsimp only [List.set]
  suffices lp41 : ∀ (fu41 : Nat) (k : Nat) (S9 : Nat → Int32) (M9 : mM), 24 - k < fu41 → k ≤ 24 → (∀ i, i < 28 + 26 * T → S9 i = S i) → S9 (28 + 26 * T) = nI (to - fr) → S9 (29 + 26 * T) = nI 0 → (∀ j, j < k → j < to - fr → S9 (30 + 26 * T + j) = g (fr + j)) → M9 m = some (300, .inl (8, [.ref sa, .ref ha, .int (nI c), .ref xa, .int (nI tl), .ref ra, .ref la, .ref qa, .int (nI al), .ref ka, .int (nI rm), .ref pa, .int fs, .int fe, .ref za, .ref wa, .ref ua, .int (nI ap), .int cm, .int (nI nu), .int (nI be), .int (nI en)])) → M9 sa = some (301, .inr (0, 444, .inl S9)) → M9 xa = some (303, .inr (0, 80, .inl xt)) → mZ [301] M M9 → V X 0 0 41 [some (.ref m), some (.int (nI fr)), some (.int (nI to)), some (.int (nI T)), some (.int (nI (28 + (26 * T)))), some (.int (nI k))] [] M9 from lp41 25 0 _ _ (by omega) (by omega) (fun i hi => by rw [pk_un (by omega), pk_un (by omega)]) (by rw [pk_un (by omega)]; exact pk_us) (by rw [show 29 + 26 * T = 28 + 26 * T + 1 by omega]; exact pk_us) (fun j hj => by omega) hO hS hX hF
  intro fu41
  induction fu41 with
  | zero => intro k S9 M9 hk0 hk hlo h1 h2 h3 hO hS hX hF; omega
  | succ fu41 ih41 =>
    intro k S9 M9 hk0 hk hlo h1 h2 h3 hO hS hX hF
    refine s_iload C 43 dX7_adds_41 rfl rfl ?_
    refine s_bipush C 45 (nI 24) dX7_adds_43 rfl (by decide) ?_
    refine s_icmp_geN C 87 48 dX7_adds_45 (by decide) rfl (by omega) (by omega) (fun z45 => ?_) (fun z45 => ?_)
    · skip
      refine s_aload_n C 88 dX7_adds_87 rfl rfl ?_
      refine s_getf C 91 dX7_adds_88 rfl f_X7_7 hO rfl ?_
      refine s_iconst C 92 (nI 0) dX7_adds_91 rfl (by decide) ?_
      refine s_dup2 C 93 dX7_adds_92 rfl rfl rfl ?_
      refine s_iald C 94 dX7_adds_93 rfl hS (by omega) (by omega) ?_
      rw [(hlo 0 (by omega)).trans hx0]
      refine s_iconst C 95 (nI 1) dX7_adds_94 rfl (by decide) ?_
      refine s_iaddN C 96 dX7_adds_95 rfl ?_
      refine s_iastU C 97 dX7_adds_96 rfl hS (by first | decide | omega) (by omega) (by omega) (fun M5 U6 => ?_)
      have hO := U6.o hS hO (by first | decide | omega)
      have hX := U6.o hS hX (by first | decide | omega)
      have hF := hF.put U6 hS (by first | decide | (simp; done) | (simp; omega) | (simp [*]; done))
      have hS := U6.s
      refine s_iload_n C 98 dX7_adds_97 rfl rfl ?_
      exact s_iret C dX7_adds_98 Tr rfl ⟨rfl, ⟨_, hS, SR_add hq24 hx8 (fun t ht => (hok.V t ht).2.1) pk_us (fun i h4 h5 => by rw [pk_un (by omega)]; exact hlo i h5) (by rw [pk_un (by omega)]; exact h1) (by rw [pk_un (by omega)]; exact h2) (fun j hj => by rw [pk_un (by omega)]; exact h3 j (by omega) hj)⟩, hF⟩
    · skip
      refine s_aload_n C 49 dX7_adds_48 rfl rfl ?_
      refine s_getf C 52 dX7_adds_49 rfl f_X7_7 hO rfl ?_
      refine s_iload C 54 dX7_adds_52 rfl rfl ?_
      refine s_iconst C 55 (nI 2) dX7_adds_54 rfl (by decide) ?_
      refine s_iaddN C 56 dX7_adds_55 rfl ?_
      refine s_iload C 58 dX7_adds_56 rfl rfl ?_
      refine s_iaddN C 59 dX7_adds_58 rfl ?_
      refine s_iload_n C 60 dX7_adds_59 rfl rfl ?_
      refine s_iload C 62 dX7_adds_60 rfl rfl ?_
      refine s_iaddN C 63 dX7_adds_62 rfl ?_
      refine s_iload_n C 64 dX7_adds_63 rfl rfl ?_
      refine s_icmp_geN C 79 67 dX7_adds_64 (by decide) rfl (by omega) (by omega) (fun z64 => ?_) (fun z64 => ?_)
      · skip
        refine s_iconst C 80 (nI 0) dX7_adds_79 rfl (by decide) ?_
        refine s_iastU C 81 dX7_adds_80 rfl hS (by first | decide | omega) (by omega) (by omega) (fun M7 U8 => ?_)
        have hO := U8.o hS hO (by first | decide | omega)
        have hX := U8.o hS hX (by first | decide | omega)
        have hF := hF.put U8 hS (by first | decide | (simp; done) | (simp; omega) | (simp [*]; done))
        have hS := U8.s
        refine s_iinc C 84 (nI (k + 1)) dX7_adds_81 rfl rfl (by rw [← nI_add]; rfl) rfl ?_
        dsimp only [List.set]
        refine s_goto C 41 dX7_adds_84 (by decide) ?_
        exact ih41 (k + 1) _ _ (by omega) (by omega) (fun i hi => by rw [pk_un (by omega)]; exact hlo i hi) (by rw [pk_un (by omega)]; exact h1) (by rw [pk_un (by omega)]; exact h2) (fun j hj hj2 => by by_cases e : j = k; (· first | omega | (rw [e, show 30 + 26 * T + k = 28 + 26 * T + 2 + k by omega]; exact pk_us)); rw [pk_un (by omega)]; exact h3 j (by omega) hj2) hO hS hX hF
      · skip
        refine s_aload_n C 68 dX7_adds_67 rfl rfl ?_
        refine s_getf C 71 dX7_adds_68 rfl f_X7_16 hO rfl ?_
        refine s_iload_n C 72 dX7_adds_71 rfl rfl ?_
        refine s_iload C 74 dX7_adds_72 rfl rfl ?_
        refine s_iaddN C 75 dX7_adds_74 rfl ?_
        refine s_iald C 76 dX7_adds_75 rfl hX (by omega) (by omega) ?_
        rw [hXg (fr + k) (by omega)]
        refine s_goto C 80 dX7_adds_76 (by decide) ?_
        refine s_iastU C 81 dX7_adds_80 rfl hS (by first | decide | omega) (by omega) (by omega) (fun M9 U10 => ?_)
        have hO := U10.o hS hO (by first | decide | omega)
        have hX := U10.o hS hX (by first | decide | omega)
        have hF := hF.put U10 hS (by first | decide | (simp; done) | (simp; omega) | (simp [*]; done))
        have hS := U10.s
        refine s_iinc C 84 (nI (k + 1)) dX7_adds_81 rfl rfl (by rw [← nI_add]; rfl) rfl ?_
        dsimp only [List.set]
        refine s_goto C 41 dX7_adds_84 (by decide) ?_
        exact ih41 (k + 1) _ _ (by omega) (by omega) (fun i hi => by rw [pk_un (by omega)]; exact hlo i hi) (by rw [pk_un (by omega)]; exact h1) (by rw [pk_un (by omega)]; exact h2) (fun j hj hj2 => by by_cases e : j = k; (· first | omega | (rw [e, show 30 + 26 * T + k = 28 + 26 * T + 2 + k by omega]; exact pk_us)); rw [pk_un (by omega)]; exact h3 j (by omega) hj2) hO hS hX hF

set_option maxRecDepth 100000 in
set_option maxHeartbeats 4000000 in
theorem n_drops {G : mG} {M : mM} {m sa ha c xa tl ra la qa al ka rm pa za wa ua ap nu be en : Nat} {fs fe cm : Int32} (hO : M m = some (300, .inl (8, nL sa ha c xa tl ra la qa al ka rm pa fs fe za wa ua ap cm nu be en))) {S : Nat → Int32} (hS : M sa = some (301, .inr (0, 444, .inl S))) {T mo od ql : Nat} {q : Nat → Int32} {ln : Nat → Nat} {fl : Nat → Nat → Int32} {us : Nat → Int32} (hx : SR S T mo od ql q ln fl us) (hok : okX T mo od ql q ln fl) {t : Nat} (ht : t < T) : CC G iX7_drops 0 0 [.ref m, .int (nI t)] M (fun r M1 => r = some (.int (nI (T - 1))) ∧ (∃ S1 : Nat → Int32, M1 sa = some (301, .inr (0, 444, .inl S1)) ∧ SR S1 (T - 1) mo od ql q (dpF ln t) (dpF fl t) (dpF us t)) ∧ mZ [301] M M1) := by
  refine CC.of rfl (Nat.le_of_ble_eq_true rfl) rfl (fun X C Tr => ?_)
  show V X 0 0 0 [some (.ref m), some (.int (nI t)), none] [] M
  have hx8 := hx
  obtain ⟨hx0, hx1, hx2, hx3, hxq, hxt⟩ := hx
  have hT16 := hok.T16
  have hm4 := hok.m4
  have ho3 := hok.o3
  have hq24 := hok.q24
  have hF : mZ [301] M M := mZ.rf
  refine s_aload_n C 1 dX7_drops_0 rfl rfl ?_
  refine s_getf C 4 dX7_drops_1 rfl f_X7_7 hO rfl ?_
  refine s_iconst C 5 (nI 0) dX7_drops_4 rfl (by decide) ?_
  refine s_dup2 C 6 dX7_drops_5 rfl rfl rfl ?_
  refine s_iald C 7 dX7_drops_6 rfl hS (by omega) (by omega) ?_
  rw [hx0]
  refine s_iconst C 8 (nI 1) dX7_drops_7 rfl (by decide) ?_
  refine s_isubN C 9 dX7_drops_8 rfl (by omega) ?_
  refine s_iastU C 10 dX7_drops_9 rfl hS (by first | decide | omega) (by omega) (by omega) (fun M1 U2 => ?_)
  have hO := U2.o hS hO (by first | decide | omega)
  have hF := hF.put U2 hS (by first | decide | (simp; done) | (simp; omega) | (simp [*]; done))
  have hS := U2.s
  refine s_bipush C 12 (nI 28) dX7_drops_10 rfl (by decide) ?_
  refine s_bipush C 14 (nI 26) dX7_drops_12 rfl (by decide) ?_
  refine s_iload_n C 15 dX7_drops_14 rfl rfl ?_
  refine s_imulN C 16 dX7_drops_15 rfl ?_
  refine s_iaddN C 17 dX7_drops_16 rfl ?_
  refine s_istore_n C 18 dX7_drops_17 rfl rfl rfl ?_
  dsimp only [List.set]
  suffices lp18 : ∀ (fu18 : Nat) (k : Nat) (S9 : Nat → Int32) (M9 : mM), 444 - k < fu18 → 28 + 26 * t ≤ k → k ≤ 28 + 26 * (T - 1) → S9 0 = nI (T - 1) → (∀ i, 0 < i → i < 28 + 26 * t → S9 i = S i) → (∀ i, 28 + 26 * t ≤ i → i < k → S9 i = S (i + 26)) → (∀ i, k ≤ i → S9 i = S i) → M9 m = some (300, .inl (8, [.ref sa, .ref ha, .int (nI c), .ref xa, .int (nI tl), .ref ra, .ref la, .ref qa, .int (nI al), .ref ka, .int (nI rm), .ref pa, .int fs, .int fe, .ref za, .ref wa, .ref ua, .int (nI ap), .int cm, .int (nI nu), .int (nI be), .int (nI en)])) → M9 sa = some (301, .inr (0, 444, .inl S9)) → mZ [301] M M9 → V X 0 0 18 [some (.ref m), some (.int (nI t)), some (.int (nI k))] [] M9 from lp18 445 _ _ _ (by omega) (by omega) (by omega) pk_us (fun i h1 h2 => pk_un (by omega)) (fun i h1 h2 => by omega) (fun i h1 => pk_un (by omega)) hO hS hF
  intro fu18
  induction fu18 with
  | zero => intro k S9 M9 hk0 hk1 hk2 h00 hlo hmid hhi hO hS hF; omega
  | succ fu18 ih18 =>
    intro k S9 M9 hk0 hk1 hk2 h00 hlo hmid hhi hO hS hF
    refine s_iload_n C 19 dX7_drops_18 rfl rfl ?_
    refine s_bipush C 21 (nI 28) dX7_drops_19 rfl (by decide) ?_
    refine s_bipush C 23 (nI 26) dX7_drops_21 rfl (by decide) ?_
    refine s_aload_n C 24 dX7_drops_23 rfl rfl ?_
    refine s_getf C 27 dX7_drops_24 rfl f_X7_7 hO rfl ?_
    refine s_iconst C 28 (nI 0) dX7_drops_27 rfl (by decide) ?_
    refine s_iald C 29 dX7_drops_28 rfl hS (by omega) (by omega) ?_
    rw [h00]
    refine s_imulN C 30 dX7_drops_29 rfl ?_
    refine s_iaddN C 31 dX7_drops_30 rfl ?_
    refine s_icmp_geN C 55 34 dX7_drops_31 (by decide) rfl (by omega) (by omega) (fun z31 => ?_) (fun z31 => ?_)
    · skip
      refine s_bipush C 57 (nI 28) dX7_drops_55 rfl (by decide) ?_
      refine s_bipush C 59 (nI 26) dX7_drops_57 rfl (by decide) ?_
      refine s_aload_n C 60 dX7_drops_59 rfl rfl ?_
      refine s_getf C 63 dX7_drops_60 rfl f_X7_7 hO rfl ?_
      refine s_iconst C 64 (nI 0) dX7_drops_63 rfl (by decide) ?_
      refine s_iald C 65 dX7_drops_64 rfl hS (by omega) (by omega) ?_
      rw [h00]
      refine s_imulN C 66 dX7_drops_65 rfl ?_
      refine s_iaddN C 67 dX7_drops_66 rfl ?_
      refine s_istore_n C 68 dX7_drops_67 rfl rfl rfl ?_
      dsimp only [List.set]
      suffices lp68 : ∀ (fu68 : Nat) (k : Nat) (S8 : Nat → Int32) (M8 : mM), 444 - k < fu68 → 28 + 26 * (T - 1) ≤ k → k ≤ 444 → S8 0 = nI (T - 1) → (∀ i, 0 < i → i < 28 + 26 * t → S8 i = S i) → (∀ i, 28 + 26 * t ≤ i → i < 28 + 26 * (T - 1) → S8 i = S (i + 26)) → M8 m = some (300, .inl (8, [.ref sa, .ref ha, .int (nI c), .ref xa, .int (nI tl), .ref ra, .ref la, .ref qa, .int (nI al), .ref ka, .int (nI rm), .ref pa, .int fs, .int fe, .ref za, .ref wa, .ref ua, .int (nI ap), .int cm, .int (nI nu), .int (nI be), .int (nI en)])) → M8 sa = some (301, .inr (0, 444, .inl S8)) → mZ [301] M M8 → V X 0 0 68 [some (.ref m), some (.int (nI t)), some (.int (nI k))] [] M8 from lp68 445 _ _ _ (by omega) (by omega) (by omega) h00 hlo (fun i h1 h2 => hmid i h1 (by omega)) hO hS hF
      intro fu68
      induction fu68 with
      | zero => intro k S8 M8 hk0 hk1 hk2 h00 hlo hmid hO hS hF; omega
      | succ fu68 ih68 =>
        intro k S8 M8 hk0 hk1 hk2 h00 hlo hmid hO hS hF
        refine s_iload_n C 69 dX7_drops_68 rfl rfl ?_
        refine s_sipush C 72 (nI 444) dX7_drops_69 rfl (by decide) ?_
        refine s_icmp_geN C 88 75 dX7_drops_72 (by decide) rfl (by omega) (by omega) (fun z72 => ?_) (fun z72 => ?_)
        · skip
          refine s_aload_n C 89 dX7_drops_88 rfl rfl ?_
          refine s_getf C 92 dX7_drops_89 rfl f_X7_7 hO rfl ?_
          refine s_iconst C 93 (nI 0) dX7_drops_92 rfl (by decide) ?_
          refine s_iald C 94 dX7_drops_93 rfl hS (by omega) (by omega) ?_
          rw [h00]
          exact s_iret C dX7_drops_94 Tr rfl ⟨rfl, ⟨_, hS, SR_drop hq24 ht hx8 (fun t ht => (hok.V t ht).2.1) h00 hlo hmid⟩, hF⟩
        · skip
          refine s_aload_n C 76 dX7_drops_75 rfl rfl ?_
          refine s_getf C 79 dX7_drops_76 rfl f_X7_7 hO rfl ?_
          refine s_iload_n C 80 dX7_drops_79 rfl rfl ?_
          refine s_iconst C 81 (nI 0) dX7_drops_80 rfl (by decide) ?_
          refine s_iastU C 82 dX7_drops_81 rfl hS (by first | decide | omega) (by omega) (by omega) (fun M3 U4 => ?_)
          have hO := U4.o hS hO (by first | decide | omega)
          have hF := hF.put U4 hS (by first | decide | (simp; done) | (simp; omega) | (simp [*]; done))
          have hS := U4.s
          refine s_iinc C 85 (nI (k + 1)) dX7_drops_82 rfl rfl (by rw [← nI_add]; rfl) rfl ?_
          dsimp only [List.set]
          refine s_goto C 68 dX7_drops_85 (by decide) ?_
          exact ih68 (k + 1) _ _ (by omega) (by omega) (by omega) (by rw [pk_un (by omega)]; exact h00) (fun i h1 h2 => by rw [pk_un (by omega)]; exact hlo i h1 h2) (fun i h1 h2 => by rw [pk_un (by omega)]; exact hmid i h1 h2) hO hS hF
    · skip
      refine s_aload_n C 35 dX7_drops_34 rfl rfl ?_
      refine s_getf C 38 dX7_drops_35 rfl f_X7_7 hO rfl ?_
      refine s_iload_n C 39 dX7_drops_38 rfl rfl ?_
      refine s_aload_n C 40 dX7_drops_39 rfl rfl ?_
      refine s_getf C 43 dX7_drops_40 rfl f_X7_7 hO rfl ?_
      refine s_iload_n C 44 dX7_drops_43 rfl rfl ?_
      refine s_bipush C 46 (nI 26) dX7_drops_44 rfl (by decide) ?_
      refine s_iaddN C 47 dX7_drops_46 rfl ?_
      refine s_iald C 48 dX7_drops_47 rfl hS (by omega) (by omega) ?_
      rw [hhi (k + 26) (by omega)]
      refine s_iastU C 49 dX7_drops_48 rfl hS (by first | decide | omega) (by omega) (by omega) (fun M5 U6 => ?_)
      have hO := U6.o hS hO (by first | decide | omega)
      have hF := hF.put U6 hS (by first | decide | (simp; done) | (simp; omega) | (simp [*]; done))
      have hS := U6.s
      refine s_iinc C 52 (nI (k + 1)) dX7_drops_49 rfl rfl (by rw [← nI_add]; rfl) rfl ?_
      dsimp only [List.set]
      refine s_goto C 18 dX7_drops_52 (by decide) ?_
      exact ih18 (k + 1) _ _ (by omega) (by omega) (by omega) (by rw [pk_un (by omega)]; exact h00) (fun i h1 h2 => by rw [pk_un (by omega)]; exact hlo i h1 h2) (fun i h1 h2 => by by_cases e : i = k; (· rw [e, pk_us]); rw [pk_un e]; exact hmid i h1 (by omega)) (fun i h1 => by rw [pk_un (by omega)]; exact hhi i (by omega)) hO hS hF

set_option maxRecDepth 100000 in
set_option maxHeartbeats 4000000 in
theorem n_clears {G : mG} {M : mM} {m sa ha c xa tl ra la qa al ka rm pa za wa ua ap nu be en : Nat} {fs fe cm : Int32} (hO : M m = some (300, .inl (8, nL sa ha c xa tl ra la qa al ka rm pa fs fe za wa ua ap cm nu be en))) {S : Nat → Int32} (hS : M sa = some (301, .inr (0, 444, .inl S))) {T mo od ql : Nat} {q : Nat → Int32} {ln : Nat → Nat} {fl : Nat → Nat → Int32} {us : Nat → Int32} (hx : SR S T mo od ql q ln fl us)  : CC G iX7_clearsQuery 0 0 [.ref m] M (fun r M1 => r = none ∧ (∃ S1 : Nat → Int32, M1 sa = some (301, .inr (0, 444, .inl S1)) ∧ SR S1 T mo od 0 q ln fl us) ∧ mZ [301] M M1) := by
  refine CC.of rfl (Nat.le_of_ble_eq_true rfl) rfl (fun X C Tr => ?_)
  show V X 0 0 0 [some (.ref m), none] [] M
  have hF : mZ [301] M M := mZ.rf
  refine s_iconst C 1 (nI 0) dX7_clearsQuery_0 rfl (by decide) ?_
  refine s_istore_n C 2 dX7_clearsQuery_1 rfl rfl rfl ?_
  dsimp only [List.set]
  suffices lp2 : ∀ (fu2 : Nat) (k : Nat) (S9 : Nat → Int32) (M9 : mM), 25 - k < fu2 → k ≤ 25 → (∀ i, i < 3 ∨ 28 ≤ i → S9 i = S i) → (∀ j, j < k → S9 (3 + j) = nI 0) → M9 m = some (300, .inl (8, [.ref sa, .ref ha, .int (nI c), .ref xa, .int (nI tl), .ref ra, .ref la, .ref qa, .int (nI al), .ref ka, .int (nI rm), .ref pa, .int fs, .int fe, .ref za, .ref wa, .ref ua, .int (nI ap), .int cm, .int (nI nu), .int (nI be), .int (nI en)])) → M9 sa = some (301, .inr (0, 444, .inl S9)) → mZ [301] M M9 → V X 0 0 2 [some (.ref m), some (.int (nI k))] [] M9 from lp2 26 0 _ _ (by omega) (by omega) (fun i hi => rfl) (fun j hj => by omega) hO hS hF
  intro fu2
  induction fu2 with
  | zero => intro k S9 M9 hk0 hk h1 h2 hO hS hF; omega
  | succ fu2 ih2 =>
    intro k S9 M9 hk0 hk h1 h2 hO hS hF
    refine s_iload_n C 3 dX7_clearsQuery_2 rfl rfl ?_
    refine s_bipush C 5 (nI 24) dX7_clearsQuery_3 rfl (by decide) ?_
    refine s_icmp_gtN C 23 8 dX7_clearsQuery_5 (by decide) rfl (by omega) (by omega) (fun z5 => ?_) (fun z5 => ?_)
    · skip
      exact s_vret C dX7_clearsQuery_23 Tr rfl ⟨rfl, ⟨_, hS, SR_clear hx (h2 0 (by omega)) h1⟩, hF⟩
    · skip
      refine s_aload_n C 9 dX7_clearsQuery_8 rfl rfl ?_
      refine s_getf C 12 dX7_clearsQuery_9 rfl f_X7_7 hO rfl ?_
      refine s_iconst C 13 (nI 3) dX7_clearsQuery_12 rfl (by decide) ?_
      refine s_iload_n C 14 dX7_clearsQuery_13 rfl rfl ?_
      refine s_iaddN C 15 dX7_clearsQuery_14 rfl ?_
      refine s_iconst C 16 (nI 0) dX7_clearsQuery_15 rfl (by decide) ?_
      refine s_iastU C 17 dX7_clearsQuery_16 rfl hS (by first | decide | omega) (by omega) (by omega) (fun M1 U2 => ?_)
      have hO := U2.o hS hO (by first | decide | omega)
      have hF := hF.put U2 hS (by first | decide | (simp; done) | (simp; omega) | (simp [*]; done))
      have hS := U2.s
      refine s_iinc C 20 (nI (k + 1)) dX7_clearsQuery_17 rfl rfl (by rw [← nI_add]; rfl) rfl ?_
      dsimp only [List.set]
      refine s_goto C 2 dX7_clearsQuery_20 (by decide) ?_
      exact ih2 (k + 1) _ _ (by omega) (by omega) (fun i hi => by rw [pk_un (by omega)]; exact h1 i hi) (fun j hj => by by_cases e : j = k; (· rw [e, pk_us]); rw [pk_un (by omega)]; exact h2 j (by omega)) hO hS hF

set_option maxRecDepth 100000 in
set_option maxHeartbeats 4000000 in
theorem n_picks {G : mG} {M : mM} {m sa ha c xa tl ra la qa al ka rm pa za wa ua ap nu be en : Nat} {fs fe cm : Int32} (hO : M m = some (300, .inl (8, nL sa ha c xa tl ra la qa al ka rm pa fs fe za wa ua ap cm nu be en))) {S : Nat → Int32} (hS : M sa = some (301, .inr (0, 444, .inl S))) {T mo od ql : Nat} {q : Nat → Int32} {ln : Nat → Nat} {fl : Nat → Nat → Int32} {us : Nat → Int32} (hx : SR S T mo od ql q ln fl us) (hok : okX T mo od ql q ln fl) {K : Nat → Int32} (hK : M ka = some (307, .inr (0, 16, .inl K))) {k t : Nat} (hk : k < 16) (ht : t < T) (hKk : K k = nI t) : CC G iX7_picks 0 0 [.ref m, .int (nI k)] M (fun r M1 => r = some (.int (nI t)) ∧ (∃ S1 : Nat → Int32, M1 sa = some (301, .inr (0, 444, .inl S1)) ∧ SR S1 T mo od 0 q ln fl (adF us t (us t + nI 1))) ∧ mZ [301] M M1) := by
  refine CC.of rfl (Nat.le_of_ble_eq_true rfl) rfl (fun X C Tr => ?_)
  show V X 0 0 0 [some (.ref m), some (.int (nI k)), none] [] M
  have hx8 := hx
  obtain ⟨hx0, hx1, hx2, hx3, hxq, hxt⟩ := hx
  have hT16 := hok.T16
  have hm4 := hok.m4
  have ho3 := hok.o3
  have hq24 := hok.q24
  have hF : mZ [301] M M := mZ.rf
  refine s_aload_n C 1 dX7_picks_0 rfl rfl ?_
  refine s_getf C 4 dX7_picks_1 rfl f_X7_28 hO rfl ?_
  refine s_iload_n C 5 dX7_picks_4 rfl rfl ?_
  refine s_iald C 6 dX7_picks_5 rfl hK (by omega) (by omega) ?_
  rw [hKk]
  refine s_istore_n C 7 dX7_picks_6 rfl rfl rfl ?_
  dsimp only [List.set]
  refine s_aload_n C 8 dX7_picks_7 rfl rfl ?_
  refine s_getf C 11 dX7_picks_8 rfl f_X7_7 hO rfl ?_
  refine s_bipush C 13 (nI 28) dX7_picks_11 rfl (by decide) ?_
  refine s_bipush C 15 (nI 26) dX7_picks_13 rfl (by decide) ?_
  refine s_iload_n C 16 dX7_picks_15 rfl rfl ?_
  refine s_imulN C 17 dX7_picks_16 rfl ?_
  refine s_iaddN C 18 dX7_picks_17 rfl ?_
  refine s_iconst C 19 (nI 1) dX7_picks_18 rfl (by decide) ?_
  refine s_iaddN C 20 dX7_picks_19 rfl ?_
  refine s_dup2 C 21 dX7_picks_20 rfl rfl rfl ?_
  refine s_iald C 22 dX7_picks_21 rfl hS (by omega) (by omega) ?_
  rw [show S (28 + 26 * t + 1) = us t by (rw [show 28 + 26 * t + 1 = 29 + 26 * t by omega]; exact (hxt t ht).2.1)]
  refine s_iconst C 23 (nI 1) dX7_picks_22 rfl (by decide) ?_
  refine s_iadd C 24 dX7_picks_23 rfl ?_
  refine s_iastU C 25 dX7_picks_24 rfl hS (by first | decide | omega) (by omega) (by omega) (fun M1 U2 => ?_)
  have hO := U2.o hS hO (by first | decide | omega)
  have hK := U2.o hS hK (by first | decide | omega)
  have hF := hF.put U2 hS (by first | decide | (simp; done) | (simp; omega) | (simp [*]; done))
  have hS := U2.s
  refine s_aload_n C 26 dX7_picks_25 rfl rfl ?_
  refine s_invV C 29 0 0 [] (mRv_of hO rfl) dX7_picks_26 rfl m_X7_207 (n_clears hO hS (SR_use (t := t) hq24 (fun t ht => (hok.V t ht).2.1) hx8)) rfl rfl rfl ⟨by decide, by decide⟩ (Nat.le_of_ble_eq_true rfl) (by omega) (by omega) ?_
  rintro _ M3 ⟨rfl, ⟨S7, hS7, hx7⟩, hFc⟩
  dsimp only [Option.toList, List.cons_append, List.nil_append]
  refine s_iload_n C 30 dX7_picks_29 rfl rfl ?_
  exact s_iret C dX7_picks_30 Tr rfl ⟨rfl, ⟨_, hS7, hx7⟩, hF.tr hFc⟩

set_option maxRecDepth 100000 in
set_option maxHeartbeats 4000000 in
theorem n_record {G : mG} {M : mM} {m sa ha c xa tl ra la qa al ka rm pa za wa ua ap nu be en : Nat} {fs fe cm : Int32} (hO : M m = some (300, .inl (8, nL sa ha c xa tl ra la qa al ka rm pa fs fe za wa ua ap cm nu be en))) {S : Nat → Int32} (hS : M sa = some (301, .inr (0, 444, .inl S))) {T mo od ql : Nat} {q : Nat → Int32} {ln : Nat → Nat} {fl : Nat → Nat → Int32} {us : Nat → Int32} (hx : SR S T mo od ql q ln fl us) (hok : okX T mo od ql q ln fl) {H : Nat → Int32} {hs : Nat → mSt} (hH : M ha = some (302, .inr (0, 2664, .inl H))) (hHr : hRow H c hs) (hc6 : c ≤ 6)  : CC G iX7_record 0 0 [.ref m] M (fun r M1 => r = none ∧ M1 m = some (300, .inl (8, nL sa ha (min (c + 1) 6) xa tl ra la qa al ka rm pa fs fe za wa ua ap cm nu be en)) ∧ (∃ H1 : Nat → Int32, M1 ha = some (302, .inr (0, 2664, .inl H1)) ∧ hRow H1 (min (c + 1) 6) (hPush (T, mo, od, ql, q, ln, fl, us) hs)) ∧ mZ [300, 302] M M1) := by
  refine CC.of rfl (Nat.le_of_ble_eq_true rfl) rfl (fun X C Tr => ?_)
  show V X 0 0 0 [some (.ref m), none] [] M
  have hx8 := hx
  obtain ⟨hx0, hx1, hx2, hx3, hxq, hxt⟩ := hx
  have hT16 := hok.T16
  have hm4 := hok.m4
  have ho3 := hok.o3
  have hq24 := hok.q24
  have hF : mZ [300, 302] M M := mZ.rf
  refine s_aload_n C 1 dX7_record_0 rfl rfl ?_
  refine s_getf C 4 dX7_record_1 rfl f_X7_43 hO rfl ?_
  refine s_bipush C 6 (nI 6) dX7_record_4 rfl (by decide) ?_
  refine s_icmp_neN C 50 9 dX7_record_6 (by decide) rfl (by omega) (by omega) (fun z6 => ?_) (fun z6 => ?_)
  · skip
    refine s_iconst C 51 (nI 0) dX7_record_50 rfl (by decide) ?_
    refine s_istore_n C 52 dX7_record_51 rfl rfl rfl ?_
    dsimp only [List.set]
    have hr0 : hRow H c hs := hHr
    have hc5 : c ≤ 5 := by omega
    suffices lp52 : ∀ (fu52 : Nat) (k : Nat) (H8 : Nat → Int32) (M8 : mM), 444 - k < fu52 → k ≤ 444 → (∀ i, i < 444 * (c) → H8 i = H i) → (∀ j, j < k → H8 ((c) * 444 + j) = S j) → M8 m = some (300, .inl (8, [.ref sa, .ref ha, .int (nI c), .ref xa, .int (nI tl), .ref ra, .ref la, .ref qa, .int (nI al), .ref ka, .int (nI rm), .ref pa, .int fs, .int fe, .ref za, .ref wa, .ref ua, .int (nI ap), .int cm, .int (nI nu), .int (nI be), .int (nI en)])) → M8 sa = some (301, .inr (0, 444, .inl S)) → M8 ha = some (302, .inr (0, 2664, .inl H8)) → mZ [300, 302] M M8 → V X 0 0 52 [some (.ref m), some (.int (nI k))] [] M8 from lp52 445 0 _ _ (by omega) (by omega) (fun i hi => rfl) (fun j hj => by omega) hO hS hH hF
    intro fu52
    induction fu52 with
    | zero => intro k H8 M8 hk0 hk h3 h4 hO hS hH hF; omega
    | succ fu52 ih52 =>
      intro k H8 M8 hk0 hk h3 h4 hO hS hH hF
      refine s_iload_n C 53 dX7_record_52 rfl rfl ?_
      refine s_sipush C 56 (nI 444) dX7_record_53 rfl (by decide) ?_
      refine s_icmp_geN C 86 59 dX7_record_56 (by decide) rfl (by omega) (by omega) (fun z56 => ?_) (fun z56 => ?_)
      · skip
        refine s_aload_n C 87 dX7_record_86 rfl rfl ?_
        refine s_dup C 88 dX7_record_87 rfl rfl ?_
        refine s_getf C 91 dX7_record_88 rfl f_X7_43 hO rfl ?_
        refine s_iconst C 92 (nI 1) dX7_record_91 rfl (by decide) ?_
        refine s_iaddN C 93 dX7_record_92 rfl ?_
        refine s_putU C 96 dX7_record_93 rfl p_X7_43 hO (by first | decide | omega) rfl rfl rfl (fs' := [.ref sa, .ref ha, .int (nI (c + 1)), .ref xa, .int (nI tl), .ref ra, .ref la, .ref qa, .int (nI al), .ref ka, .int (nI rm), .ref pa, .int fs, .int fe, .ref za, .ref wa, .ref ua, .int (nI ap), .int cm, .int (nI nu), .int (nI be), .int (nI en)]) rfl (fun M1 U2 => ?_)
        have hS := U2.o hO hS (by first | decide | omega)
        have hH := U2.o hO hH (by first | decide | omega)
        have hF := hF.put U2 hO (by first | decide | (simp; done) | (simp; omega) | (simp [*]; done))
        have hO := U2.s
        exact s_vret C dX7_record_96 Tr rfl ⟨rfl, by rw [show min (c + 1) 6 = c + 1 by omega]; exact hO, ⟨_, hH, by rw [show min (c + 1) 6 = c + 1 by omega]; exact hRow_push hr0 hok hx8 h3 (fun k2 h7 => h4 k2 (by omega))⟩, hF⟩
      · skip
        refine s_aload_n C 60 dX7_record_59 rfl rfl ?_
        refine s_getf C 63 dX7_record_60 rfl f_X7_13 hO rfl ?_
        refine s_aload_n C 64 dX7_record_63 rfl rfl ?_
        refine s_getf C 67 dX7_record_64 rfl f_X7_43 hO rfl ?_
        refine s_sipush C 70 (nI 444) dX7_record_67 rfl (by decide) ?_
        refine s_imulN C 71 dX7_record_70 rfl ?_
        refine s_iload_n C 72 dX7_record_71 rfl rfl ?_
        refine s_iaddN C 73 dX7_record_72 rfl ?_
        refine s_aload_n C 74 dX7_record_73 rfl rfl ?_
        refine s_getf C 77 dX7_record_74 rfl f_X7_7 hO rfl ?_
        refine s_iload_n C 78 dX7_record_77 rfl rfl ?_
        refine s_iald C 79 dX7_record_78 rfl hS (by omega) (by omega) ?_
        refine s_iastU C 80 dX7_record_79 rfl hH (by first | decide | omega) (by omega) (by omega) (fun M3 U4 => ?_)
        have hO := U4.o hH hO (by first | decide | omega)
        have hS := U4.o hH hS (by first | decide | omega)
        have hF := hF.put U4 hH (by first | decide | (simp; done) | (simp; omega) | (simp [*]; done))
        have hH := U4.s
        refine s_iinc C 83 (nI (k + 1)) dX7_record_80 rfl rfl (by rw [← nI_add]; rfl) rfl ?_
        dsimp only [List.set]
        refine s_goto C 52 dX7_record_83 (by decide) ?_
        exact ih52 (k + 1) _ _ (by omega) (by omega) (fun i hi => by rw [pk_un (by omega)]; exact h3 i hi) (fun j hj => by by_cases e : j = k; (· rw [e, pk_us]); rw [pk_un (by omega)]; exact h4 j (by omega)) hO hS hH hF
  · skip
    refine s_iconst C 10 (nI 0) dX7_record_9 rfl (by decide) ?_
    refine s_istore_n C 11 dX7_record_10 rfl rfl rfl ?_
    dsimp only [List.set]
    suffices lp11 : ∀ (fu11 : Nat) (k : Nat) (H9 : Nat → Int32) (M9 : mM), 2220 - k < fu11 → k ≤ 2220 → (∀ i, i < k → H9 i = H (i + 444)) → (∀ i, k ≤ i → H9 i = H i) → M9 m = some (300, .inl (8, [.ref sa, .ref ha, .int (nI c), .ref xa, .int (nI tl), .ref ra, .ref la, .ref qa, .int (nI al), .ref ka, .int (nI rm), .ref pa, .int fs, .int fe, .ref za, .ref wa, .ref ua, .int (nI ap), .int cm, .int (nI nu), .int (nI be), .int (nI en)])) → M9 sa = some (301, .inr (0, 444, .inl S)) → M9 ha = some (302, .inr (0, 2664, .inl H9)) → mZ [300, 302] M M9 → V X 0 0 11 [some (.ref m), some (.int (nI k))] [] M9 from lp11 2221 0 _ _ (by omega) (by omega) (fun i hi => by omega) (fun i hi => rfl) hO hS hH hF
    intro fu11
    induction fu11 with
    | zero => intro k H9 M9 hk0 hk h1 h2 hO hS hH hF; omega
    | succ fu11 ih11 =>
      intro k H9 M9 hk0 hk h1 h2 hO hS hH hF
      refine s_iload_n C 12 dX7_record_11 rfl rfl ?_
      refine s_sipush C 15 (nI 2220) dX7_record_12 rfl (by decide) ?_
      refine s_icmp_geN C 40 18 dX7_record_15 (by decide) rfl (by omega) (by omega) (fun z15 => ?_) (fun z15 => ?_)
      · skip
        refine s_aload_n C 41 dX7_record_40 rfl rfl ?_
        refine s_dup C 42 dX7_record_41 rfl rfl ?_
        refine s_getf C 45 dX7_record_42 rfl f_X7_43 hO rfl ?_
        refine s_iconst C 46 (nI 1) dX7_record_45 rfl (by decide) ?_
        refine s_isubN C 47 dX7_record_46 rfl (by omega) ?_
        refine s_putU C 50 dX7_record_47 rfl p_X7_43 hO (by first | decide | omega) rfl rfl rfl (fs' := [.ref sa, .ref ha, .int (nI (c - 1)), .ref xa, .int (nI tl), .ref ra, .ref la, .ref qa, .int (nI al), .ref ka, .int (nI rm), .ref pa, .int fs, .int fe, .ref za, .ref wa, .ref ua, .int (nI ap), .int cm, .int (nI nu), .int (nI be), .int (nI en)]) rfl (fun M5 U6 => ?_)
        have hS := U6.o hO hS (by first | decide | omega)
        have hH := U6.o hO hH (by first | decide | omega)
        have hF := hF.put U6 hO (by first | decide | (simp; done) | (simp; omega) | (simp [*]; done))
        have hO := U6.s
        refine s_iconst C 51 (nI 0) dX7_record_50 rfl (by decide) ?_
        refine s_istore_n C 52 dX7_record_51 rfl rfl rfl ?_
        dsimp only [List.set]
        have hr0 : hRow H9 (c - 1) hs := by rw [show c - 1 = 5 by omega]; exact hRow_shift (H := H) (by rw [z6] at hHr; exact hHr) (fun k2 h7 => h1 k2 (by omega))
        have hc5 : c - 1 ≤ 5 := by omega
        suffices lp52 : ∀ (fu52 : Nat) (k : Nat) (H8 : Nat → Int32) (M8 : mM), 444 - k < fu52 → k ≤ 444 → (∀ i, i < 444 * (c - 1) → H8 i = H9 i) → (∀ j, j < k → H8 ((c - 1) * 444 + j) = S j) → M8 m = some (300, .inl (8, [.ref sa, .ref ha, .int (nI (c - 1)), .ref xa, .int (nI tl), .ref ra, .ref la, .ref qa, .int (nI al), .ref ka, .int (nI rm), .ref pa, .int fs, .int fe, .ref za, .ref wa, .ref ua, .int (nI ap), .int cm, .int (nI nu), .int (nI be), .int (nI en)])) → M8 sa = some (301, .inr (0, 444, .inl S)) → M8 ha = some (302, .inr (0, 2664, .inl H8)) → mZ [300, 302] M M8 → V X 0 0 52 [some (.ref m), some (.int (nI k))] [] M8 from lp52 445 0 _ _ (by omega) (by omega) (fun i hi => rfl) (fun j hj => by omega) hO hS hH hF
        intro fu52
        induction fu52 with
        | zero => intro k H8 M8 hk0 hk h3 h4 hO hS hH hF; omega
        | succ fu52 ih52 =>
          intro k H8 M8 hk0 hk h3 h4 hO hS hH hF
          refine s_iload_n C 53 dX7_record_52 rfl rfl ?_
          refine s_sipush C 56 (nI 444) dX7_record_53 rfl (by decide) ?_
          refine s_icmp_geN C 86 59 dX7_record_56 (by decide) rfl (by omega) (by omega) (fun z56 => ?_) (fun z56 => ?_)
          · skip
            refine s_aload_n C 87 dX7_record_86 rfl rfl ?_
            refine s_dup C 88 dX7_record_87 rfl rfl ?_
            refine s_getf C 91 dX7_record_88 rfl f_X7_43 hO rfl ?_
            refine s_iconst C 92 (nI 1) dX7_record_91 rfl (by decide) ?_
            refine s_iaddN C 93 dX7_record_92 rfl ?_
            refine s_putU C 96 dX7_record_93 rfl p_X7_43 hO (by first | decide | omega) rfl rfl rfl (fs' := [.ref sa, .ref ha, .int (nI ((c - 1) + 1)), .ref xa, .int (nI tl), .ref ra, .ref la, .ref qa, .int (nI al), .ref ka, .int (nI rm), .ref pa, .int fs, .int fe, .ref za, .ref wa, .ref ua, .int (nI ap), .int cm, .int (nI nu), .int (nI be), .int (nI en)]) rfl (fun M7 U8 => ?_)
            have hS := U8.o hO hS (by first | decide | omega)
            have hH := U8.o hO hH (by first | decide | omega)
            have hF := hF.put U8 hO (by first | decide | (simp; done) | (simp; omega) | (simp [*]; done))
            have hO := U8.s
            exact s_vret C dX7_record_96 Tr rfl ⟨rfl, by rw [show min (c + 1) 6 = (c - 1) + 1 by omega]; exact hO, ⟨_, hH, by rw [show min (c + 1) 6 = (c - 1) + 1 by omega]; exact hRow_push hr0 hok hx8 h3 (fun k2 h7 => h4 k2 (by omega))⟩, hF⟩
          · skip
            refine s_aload_n C 60 dX7_record_59 rfl rfl ?_
            refine s_getf C 63 dX7_record_60 rfl f_X7_13 hO rfl ?_
            refine s_aload_n C 64 dX7_record_63 rfl rfl ?_
            refine s_getf C 67 dX7_record_64 rfl f_X7_43 hO rfl ?_
            refine s_sipush C 70 (nI 444) dX7_record_67 rfl (by decide) ?_
            refine s_imulN C 71 dX7_record_70 rfl ?_
            refine s_iload_n C 72 dX7_record_71 rfl rfl ?_
            refine s_iaddN C 73 dX7_record_72 rfl ?_
            refine s_aload_n C 74 dX7_record_73 rfl rfl ?_
            refine s_getf C 77 dX7_record_74 rfl f_X7_7 hO rfl ?_
            refine s_iload_n C 78 dX7_record_77 rfl rfl ?_
            refine s_iald C 79 dX7_record_78 rfl hS (by omega) (by omega) ?_
            refine s_iastU C 80 dX7_record_79 rfl hH (by first | decide | omega) (by omega) (by omega) (fun M9 U10 => ?_)
            have hO := U10.o hH hO (by first | decide | omega)
            have hS := U10.o hH hS (by first | decide | omega)
            have hF := hF.put U10 hH (by first | decide | (simp; done) | (simp; omega) | (simp [*]; done))
            have hH := U10.s
            refine s_iinc C 83 (nI (k + 1)) dX7_record_80 rfl rfl (by rw [← nI_add]; rfl) rfl ?_
            dsimp only [List.set]
            refine s_goto C 52 dX7_record_83 (by decide) ?_
            exact ih52 (k + 1) _ _ (by omega) (by omega) (fun i hi => by rw [pk_un (by omega)]; exact h3 i hi) (fun j hj => by by_cases e : j = k; (· rw [e, pk_us]); rw [pk_un (by omega)]; exact h4 j (by omega)) hO hS hH hF
      · skip
        refine s_aload_n C 19 dX7_record_18 rfl rfl ?_
        refine s_getf C 22 dX7_record_19 rfl f_X7_13 hO rfl ?_
        refine s_iload_n C 23 dX7_record_22 rfl rfl ?_
        refine s_aload_n C 24 dX7_record_23 rfl rfl ?_
        refine s_getf C 27 dX7_record_24 rfl f_X7_13 hO rfl ?_
        refine s_iload_n C 28 dX7_record_27 rfl rfl ?_
        refine s_sipush C 31 (nI 444) dX7_record_28 rfl (by decide) ?_
        refine s_iaddN C 32 dX7_record_31 rfl ?_
        refine s_iald C 33 dX7_record_32 rfl hH (by omega) (by omega) ?_
        rw [h2 (k + 444) (by omega)]
        refine s_iastU C 34 dX7_record_33 rfl hH (by first | decide | omega) (by omega) (by omega) (fun M11 U12 => ?_)
        have hO := U12.o hH hO (by first | decide | omega)
        have hS := U12.o hH hS (by first | decide | omega)
        have hF := hF.put U12 hH (by first | decide | (simp; done) | (simp; omega) | (simp [*]; done))
        have hH := U12.s
        refine s_iinc C 37 (nI (k + 1)) dX7_record_34 rfl rfl (by rw [← nI_add]; rfl) rfl ?_
        dsimp only [List.set]
        refine s_goto C 11 dX7_record_37 (by decide) ?_
        exact ih11 (k + 1) _ _ (by omega) (by omega) (fun i hi => by by_cases e : i = k; (· rw [e, pk_us]); rw [pk_un e]; exact h1 i (by omega)) (fun i hi => by rw [pk_un (by omega)]; exact h2 i (by omega)) hO hS hH hF

set_option maxRecDepth 100000 in
set_option maxHeartbeats 4000000 in
theorem n_longest {G : mG} {M : mM} {m sa ha c xa tl ra la qa al ka rm pa za wa ua ap nu be en : Nat} {fs fe cm : Int32} (hO : M m = some (300, .inl (8, nL sa ha c xa tl ra la qa al ka rm pa fs fe za wa ua ap cm nu be en))) {S : Nat → Int32} (hS : M sa = some (301, .inr (0, 444, .inl S))) {T mo od ql : Nat} {q : Nat → Int32} {ln : Nat → Nat} {fl : Nat → Nat → Int32} {us : Nat → Int32} (hx : SR S T mo od ql q ln fl us) (hok : okX T mo od ql q ln fl) {U : Nat → Int32} (hU : M ua = some (311, .inr (0, 25, .inl U))) {t u : Nat} (ht : t < T) (hu : u < T) : CC G iX7_longestRun 0 0 [.ref m, .int (nI t), .int (nI u)] M (fun r M1 => r = some (.int (nI (cmI (fl t) (fl u) (ln t) (ln u) (ln t)))) ∧ (∃ U1 : Nat → Int32, M1 ua = some (311, .inr (0, 25, .inl U1))) ∧ mZ [311] M M1) := by
  refine CC.of rfl (Nat.le_of_ble_eq_true rfl) rfl (fun X C Tr => ?_)
  show V X 0 0 0 [some (.ref m), some (.int (nI t)), some (.int (nI u)), none, none, none] [] M
  have hx8 := hx
  obtain ⟨hx0, hx1, hx2, hx3, hxq, hxt⟩ := hx
  have hT16 := hok.T16
  have hm4 := hok.m4
  have ho3 := hok.o3
  have hq24 := hok.q24
  have hl24 := (hok.V t ht).2.1
  have hu24 := (hok.V u hu).2.1
  have hF : mZ [311] M M := mZ.rf
  refine s_iconst C 1 (nI 0) dX7_longestRun_0 rfl (by decide) ?_
  refine s_istore_n C 2 dX7_longestRun_1 rfl rfl rfl ?_
  dsimp only [List.set]
  refine s_iconst C 3 (nI 0) dX7_longestRun_2 rfl (by decide) ?_
  refine s_istore C 5 dX7_longestRun_3 rfl rfl rfl ?_
  dsimp only [List.set]
  suffices lp5 : ∀ (fu5 : Nat) (k : Nat) (U9 : Nat → Int32) (M9 : mM), 25 - k < fu5 → k ≤ 25 → (∀ j, j < k → U9 j = nI 0) → M9 m = some (300, .inl (8, [.ref sa, .ref ha, .int (nI c), .ref xa, .int (nI tl), .ref ra, .ref la, .ref qa, .int (nI al), .ref ka, .int (nI rm), .ref pa, .int fs, .int fe, .ref za, .ref wa, .ref ua, .int (nI ap), .int cm, .int (nI nu), .int (nI be), .int (nI en)])) → M9 sa = some (301, .inr (0, 444, .inl S)) → M9 ua = some (311, .inr (0, 25, .inl U9)) → mZ [311] M M9 → V X 0 0 5 [some (.ref m), some (.int (nI t)), some (.int (nI u)), some (.int (nI 0)), some (.int (nI k)), none] [] M9 from lp5 26 0 _ _ (by omega) (by omega) (fun j hj => by omega) hO hS hU hF
  intro fu5
  induction fu5 with
  | zero => intro k U9 M9 hk0 hk h0 hO hS hU hF; omega
  | succ fu5 ih5 =>
    intro k U9 M9 hk0 hk h0 hO hS hU hF
    refine s_iload C 7 dX7_longestRun_5 rfl rfl ?_
    refine s_bipush C 9 (nI 24) dX7_longestRun_7 rfl (by decide) ?_
    refine s_icmp_gtN C 26 12 dX7_longestRun_9 (by decide) rfl (by omega) (by omega) (fun z9 => ?_) (fun z9 => ?_)
    · skip
      refine s_iconst C 27 (nI 0) dX7_longestRun_26 rfl (by decide) ?_
      refine s_istore C 29 dX7_longestRun_27 rfl rfl rfl ?_
      dsimp only [List.set]
      suffices lp29 : ∀ (fu29 : Nat) (i : Nat) (U8 : Nat → Int32) (M8 : mM), ln t - i < fu29 → i ≤ ln t → (∀ j, j ≤ ln u → U8 j = nI (bR (fl t) (fl u) i j)) → M8 m = some (300, .inl (8, [.ref sa, .ref ha, .int (nI c), .ref xa, .int (nI tl), .ref ra, .ref la, .ref qa, .int (nI al), .ref ka, .int (nI rm), .ref pa, .int fs, .int fe, .ref za, .ref wa, .ref ua, .int (nI ap), .int cm, .int (nI nu), .int (nI be), .int (nI en)])) → M8 sa = some (301, .inr (0, 444, .inl S)) → M8 ua = some (311, .inr (0, 25, .inl U8)) → mZ [311] M M8 → V X 0 0 29 [some (.ref m), some (.int (nI t)), some (.int (nI u)), some (.int (nI (lI (fl t) (fl u) (ln u) i))), some (.int (nI i)), none] [] M8 from lp29 (ln t + 1) 0 _ _ (by omega) (by omega) (fun j hj => h0 j (by omega)) hO hS hU hF
      intro fu29
      induction fu29 with
      | zero => intro i U8 M8 hi0 hi h1 hO hS hU hF; omega
      | succ fu29 ih29 =>
        intro i U8 M8 hi0 hi h1 hO hS hU hF
        have hLi := lI_le (f := fl t) (g := fl u) (m := ln u) i
        refine s_iload C 31 dX7_longestRun_29 rfl rfl ?_
        refine s_aload_n C 32 dX7_longestRun_31 rfl rfl ?_
        refine s_iload_n C 33 dX7_longestRun_32 rfl rfl ?_
        refine s_invV C 36 0 0 [.int (nI i)] (mRv_of hO rfl) dX7_longestRun_33 rfl m_X7_58 (n_len hO hS hx8 (t := t) (by omega) hT16) rfl rfl rfl ⟨by decide, by decide⟩ (Nat.le_of_ble_eq_true rfl) (by omega) (by omega) ?_
        rintro _ M1 ⟨rfl, rfl⟩
        dsimp only [Option.toList, List.cons_append, List.nil_append]
        refine s_icmp_geN C 127 39 dX7_longestRun_36 (by decide) rfl (by omega) (by omega) (fun z36 => ?_) (fun z36 => ?_)
        · skip
          have hie : i = ln t := by omega
          refine s_iload_n C 128 dX7_longestRun_127 rfl rfl ?_
          exact s_iret C dX7_longestRun_128 Tr rfl ⟨by rw [hie, lI_cm (hok.V t ht).2.1], ⟨_, hU⟩, hF⟩
        · skip
          refine s_aload_n C 40 dX7_longestRun_39 rfl rfl ?_
          refine s_iload_n C 41 dX7_longestRun_40 rfl rfl ?_
          refine s_invV C 44 0 0 [] (mRv_of hO rfl) dX7_longestRun_41 rfl m_X7_58 (n_len hO hS hx8 (t := u) (by omega) hT16) rfl rfl rfl ⟨by decide, by decide⟩ (Nat.le_of_ble_eq_true rfl) (by omega) (by omega) ?_
          rintro _ M2 ⟨rfl, rfl⟩
          dsimp only [Option.toList, List.cons_append, List.nil_append]
          refine s_istore C 46 dX7_longestRun_44 rfl rfl rfl ?_
          dsimp only [List.set]
          suffices lp46 : ∀ (fu46 : Nat) (k L : Nat) (U7 : Nat → Int32) (M7 : mM), k < fu46 → k ≤ ln u → L = max (lI (fl t) (fl u) (ln u) i) (lK (fl t) (fl u) (ln u) i (ln u - k)) → (∀ j, j ≤ k → U7 j = nI (bR (fl t) (fl u) i j)) → (∀ j, k < j → j ≤ ln u → U7 j = nI (bR (fl t) (fl u) (i + 1) j)) → M7 m = some (300, .inl (8, [.ref sa, .ref ha, .int (nI c), .ref xa, .int (nI tl), .ref ra, .ref la, .ref qa, .int (nI al), .ref ka, .int (nI rm), .ref pa, .int fs, .int fe, .ref za, .ref wa, .ref ua, .int (nI ap), .int cm, .int (nI nu), .int (nI be), .int (nI en)])) → M7 sa = some (301, .inr (0, 444, .inl S)) → M7 ua = some (311, .inr (0, 25, .inl U7)) → mZ [311] M M7 → V X 0 0 46 [some (.ref m), some (.int (nI t)), some (.int (nI u)), some (.int (nI L)), some (.int (nI i)), some (.int (nI k))] [] M7 from lp46 (ln u + 1) _ _ _ _ (by omega) (by omega) (by rw [Nat.sub_self]; exact (Nat.max_eq_left (Nat.zero_le _)).symm) h1 (fun j h7 h8 => by omega) hO hS hU hF
          intro fu46
          induction fu46 with
          | zero => intro k L U7 M7 hk0 hk hL h2 h3 hO hS hU hF; omega
          | succ fu46 ih46 =>
            intro k L U7 M7 hk0 hk hL h2 h3 hO hS hU hF
            have hLk := lK_le (f := fl t) (g := fl u) (m := ln u) (i := i) (ln u - k)
            refine s_iload C 48 dX7_longestRun_46 rfl rfl ?_
            refine s_if_leN C 121 51 dX7_longestRun_48 (by decide) rfl (by omega) (fun z48 => ?_) (fun z48 => ?_)
            · skip
              have hL2 := hL
              refine s_iinc C 124 (nI (i + 1)) dX7_longestRun_121 rfl rfl (by rw [← nI_add]; rfl) rfl ?_
              dsimp only [List.set]
              refine s_goto C 29 dX7_longestRun_124 (by decide) ?_
              refine V.drop 5 ?_
              dsimp only [List.set]
              rw [show L = lI (fl t) (fl u) (ln u) (i + 1) by rw [hL2, z48, Nat.sub_zero]; rfl]
              exact ih29 (i + 1) _ _ (by omega) (by omega) (fun j hj => by by_cases e : j = 0; (· rw [e, h2 0 (by omega), bR_0, bR_0]); exact h3 j (by omega) hj) hO hS hU hF
            · skip
              refine s_aload_n C 52 dX7_longestRun_51 rfl rfl ?_
              refine s_getf C 55 dX7_longestRun_52 rfl f_X7_40 hO rfl ?_
              refine s_iload C 57 dX7_longestRun_55 rfl rfl ?_
              refine s_aload_n C 58 dX7_longestRun_57 rfl rfl ?_
              refine s_iload_n C 59 dX7_longestRun_58 rfl rfl ?_
              refine s_iload C 61 dX7_longestRun_59 rfl rfl ?_
              refine s_invV C 64 0 0 [.int (nI k), .ref ua] (mRv_of hO rfl) dX7_longestRun_61 rfl m_X7_55 (n_char hO hS hx8 (t := t) (k := i) (by omega) hT16 (by omega) (hok.V _ (by omega)).2.1) rfl rfl rfl ⟨by decide, by decide⟩ (Nat.le_of_ble_eq_true rfl) (by omega) (by omega) ?_
              rintro _ M3 ⟨rfl, rfl⟩
              dsimp only [Option.toList, List.cons_append, List.nil_append]
              refine s_aload_n C 65 dX7_longestRun_64 rfl rfl ?_
              refine s_iload_n C 66 dX7_longestRun_65 rfl rfl ?_
              refine s_iload C 68 dX7_longestRun_66 rfl rfl ?_
              refine s_iconst C 69 (nI 1) dX7_longestRun_68 rfl (by decide) ?_
              refine s_isubN C 70 dX7_longestRun_69 rfl (by omega) ?_
              refine s_invV C 73 0 0 [.int (fl t i), .int (nI k), .ref ua] (mRv_of hO rfl) dX7_longestRun_70 rfl m_X7_55 (n_char hO hS hx8 (t := u) (k := (k - 1)) (by omega) hT16 (by omega) (hok.V _ (by omega)).2.1) rfl rfl rfl ⟨by decide, by decide⟩ (Nat.le_of_ble_eq_true rfl) (by omega) (by omega) ?_
              rintro _ M4 ⟨rfl, rfl⟩
              dsimp only [Option.toList, List.cons_append, List.nil_append]
              refine s_icmp_ne C 90 76 dX7_longestRun_73 (by decide) rfl (fun z73 => ?_) (fun z73 => ?_)
              · skip
                have hv : bR (fl t) (fl u) (i + 1) k = 0 := by rw [bR_s (by omega), if_neg z73]
                have hbl := bR_le (f := fl t) (g := fl u) (i := i) (k := k - 1)
                refine s_iconst C 91 (nI 0) dX7_longestRun_90 rfl (by decide) ?_
                refine s_iastU C 92 dX7_longestRun_91 rfl hU (by first | decide | omega) (by omega) (by omega) (fun M5 U6 => ?_)
                have hO := U6.o hU hO (by first | decide | omega)
                have hS := U6.o hU hS (by first | decide | omega)
                have hF := hF.put U6 hU (by first | decide | (simp; done) | (simp; omega) | (simp [*]; done))
                have hU := U6.s
                refine s_aload_n C 93 dX7_longestRun_92 rfl rfl ?_
                refine s_getf C 96 dX7_longestRun_93 rfl f_X7_40 hO rfl ?_
                refine s_iload C 98 dX7_longestRun_96 rfl rfl ?_
                refine s_iald C 99 dX7_longestRun_98 rfl hU (by omega) (by omega) ?_
                rw [pk_us]
                refine s_iload_n C 100 dX7_longestRun_99 rfl rfl ?_
                refine s_icmp_leN C 113 103 dX7_longestRun_100 (by decide) rfl (by omega) (by omega) (fun z100 => ?_) (fun z100 => ?_)
                · skip
                  refine s_iload_n C 114 dX7_longestRun_113 rfl rfl ?_
                  refine s_istore_n C 115 dX7_longestRun_114 rfl rfl rfl ?_
                  dsimp only [List.set]
                  refine s_iinc C 118 (nI (k - 1)) dX7_longestRun_115 rfl rfl (nI_dec (by omega)) rfl ?_
                  dsimp only [List.set]
                  refine s_goto C 46 dX7_longestRun_118 (by decide) ?_
                  exact ih46 (k - 1) _ _ _ (by omega) (by omega) (by rw [show ln u - (k - 1) = (ln u - k) + 1 by omega, lK, show ln u - (ln u - k) = k by omega, hv, ← Nat.max_assoc, ← hL]; omega) (fun j hj => by rw [pk_un (by omega)]; exact h2 j (by omega)) (fun j h7 h8 => by by_cases e : j = k; (· rw [e, pk_us, hv]); rw [pk_un e]; exact h3 j (by omega) h8) hO hS hU hF
                · skip
                  refine s_aload_n C 104 dX7_longestRun_103 rfl rfl ?_
                  refine s_getf C 107 dX7_longestRun_104 rfl f_X7_40 hO rfl ?_
                  refine s_iload C 109 dX7_longestRun_107 rfl rfl ?_
                  refine s_iald C 110 dX7_longestRun_109 rfl hU (by omega) (by omega) ?_
                  rw [pk_us]
                  refine s_goto C 114 dX7_longestRun_110 (by decide) ?_
                  refine s_istore_n C 115 dX7_longestRun_114 rfl rfl rfl ?_
                  dsimp only [List.set]
                  refine s_iinc C 118 (nI (k - 1)) dX7_longestRun_115 rfl rfl (nI_dec (by omega)) rfl ?_
                  dsimp only [List.set]
                  refine s_goto C 46 dX7_longestRun_118 (by decide) ?_
                  exact ih46 (k - 1) _ _ _ (by omega) (by omega) (by rw [show ln u - (k - 1) = (ln u - k) + 1 by omega, lK, show ln u - (ln u - k) = k by omega, hv, ← Nat.max_assoc, ← hL]; omega) (fun j hj => by rw [pk_un (by omega)]; exact h2 j (by omega)) (fun j h7 h8 => by by_cases e : j = k; (· rw [e, pk_us, hv]); rw [pk_un e]; exact h3 j (by omega) h8) hO hS hU hF
              · skip
                have hv : bR (fl t) (fl u) (i + 1) k = bR (fl t) (fl u) i (k - 1) + 1 := by rw [bR_s (by omega), if_pos z73]
                have hbl := bR_le (f := fl t) (g := fl u) (i := i) (k := k - 1)
                refine s_aload_n C 77 dX7_longestRun_76 rfl rfl ?_
                refine s_getf C 80 dX7_longestRun_77 rfl f_X7_40 hO rfl ?_
                refine s_iload C 82 dX7_longestRun_80 rfl rfl ?_
                refine s_iconst C 83 (nI 1) dX7_longestRun_82 rfl (by decide) ?_
                refine s_isubN C 84 dX7_longestRun_83 rfl (by omega) ?_
                refine s_iald C 85 dX7_longestRun_84 rfl hU (by omega) (by omega) ?_
                rw [h2 (k - 1) (by omega)]
                refine s_iconst C 86 (nI 1) dX7_longestRun_85 rfl (by decide) ?_
                refine s_iaddN C 87 dX7_longestRun_86 rfl ?_
                refine s_goto C 91 dX7_longestRun_87 (by decide) ?_
                refine s_iastU C 92 dX7_longestRun_91 rfl hU (by first | decide | omega) (by omega) (by omega) (fun M7 U8 => ?_)
                have hO := U8.o hU hO (by first | decide | omega)
                have hS := U8.o hU hS (by first | decide | omega)
                have hF := hF.put U8 hU (by first | decide | (simp; done) | (simp; omega) | (simp [*]; done))
                have hU := U8.s
                refine s_aload_n C 93 dX7_longestRun_92 rfl rfl ?_
                refine s_getf C 96 dX7_longestRun_93 rfl f_X7_40 hO rfl ?_
                refine s_iload C 98 dX7_longestRun_96 rfl rfl ?_
                refine s_iald C 99 dX7_longestRun_98 rfl hU (by omega) (by omega) ?_
                rw [pk_us]
                refine s_iload_n C 100 dX7_longestRun_99 rfl rfl ?_
                refine s_icmp_leN C 113 103 dX7_longestRun_100 (by decide) rfl (by omega) (by omega) (fun z100 => ?_) (fun z100 => ?_)
                · skip
                  refine s_iload_n C 114 dX7_longestRun_113 rfl rfl ?_
                  refine s_istore_n C 115 dX7_longestRun_114 rfl rfl rfl ?_
                  dsimp only [List.set]
                  refine s_iinc C 118 (nI (k - 1)) dX7_longestRun_115 rfl rfl (nI_dec (by omega)) rfl ?_
                  dsimp only [List.set]
                  refine s_goto C 46 dX7_longestRun_118 (by decide) ?_
                  exact ih46 (k - 1) _ _ _ (by omega) (by omega) (by rw [show ln u - (k - 1) = (ln u - k) + 1 by omega, lK, show ln u - (ln u - k) = k by omega, hv, ← Nat.max_assoc, ← hL]; omega) (fun j hj => by rw [pk_un (by omega)]; exact h2 j (by omega)) (fun j h7 h8 => by by_cases e : j = k; (· rw [e, pk_us, hv]); rw [pk_un e]; exact h3 j (by omega) h8) hO hS hU hF
                · skip
                  refine s_aload_n C 104 dX7_longestRun_103 rfl rfl ?_
                  refine s_getf C 107 dX7_longestRun_104 rfl f_X7_40 hO rfl ?_
                  refine s_iload C 109 dX7_longestRun_107 rfl rfl ?_
                  refine s_iald C 110 dX7_longestRun_109 rfl hU (by omega) (by omega) ?_
                  rw [pk_us]
                  refine s_goto C 114 dX7_longestRun_110 (by decide) ?_
                  refine s_istore_n C 115 dX7_longestRun_114 rfl rfl rfl ?_
                  dsimp only [List.set]
                  refine s_iinc C 118 (nI (k - 1)) dX7_longestRun_115 rfl rfl (nI_dec (by omega)) rfl ?_
                  dsimp only [List.set]
                  refine s_goto C 46 dX7_longestRun_118 (by decide) ?_
                  exact ih46 (k - 1) _ _ _ (by omega) (by omega) (by rw [show ln u - (k - 1) = (ln u - k) + 1 by omega, lK, show ln u - (ln u - k) = k by omega, hv, ← Nat.max_assoc, ← hL]; omega) (fun j hj => by rw [pk_un (by omega)]; exact h2 j (by omega)) (fun j h7 h8 => by by_cases e : j = k; (· rw [e, pk_us, hv]); rw [pk_un e]; exact h3 j (by omega) h8) hO hS hU hF
    · skip
      refine s_aload_n C 13 dX7_longestRun_12 rfl rfl ?_
      refine s_getf C 16 dX7_longestRun_13 rfl f_X7_40 hO rfl ?_
      refine s_iload C 18 dX7_longestRun_16 rfl rfl ?_
      refine s_iconst C 19 (nI 0) dX7_longestRun_18 rfl (by decide) ?_
      refine s_iastU C 20 dX7_longestRun_19 rfl hU (by first | decide | omega) (by omega) (by omega) (fun M9 U10 => ?_)
      have hO := U10.o hU hO (by first | decide | omega)
      have hS := U10.o hU hS (by first | decide | omega)
      have hF := hF.put U10 hU (by first | decide | (simp; done) | (simp; omega) | (simp [*]; done))
      have hU := U10.s
      refine s_iinc C 23 (nI (k + 1)) dX7_longestRun_20 rfl rfl (by rw [← nI_add]; rfl) rfl ?_
      dsimp only [List.set]
      refine s_goto C 5 dX7_longestRun_23 (by decide) ?_
      exact ih5 (k + 1) _ _ (by omega) (by omega) (fun j hj => by by_cases e : j = k; (· rw [e, pk_us]); rw [pk_un e]; exact h0 j (by omega)) hO hS hU hF

set_option maxRecDepth 100000 in
set_option maxHeartbeats 4000000 in
theorem n_isRank {G : mG} {M : mM} {m sa ha c xa tl ra la qa al ka rm pa za wa ua ap nu be en : Nat} {fs fe cm : Int32} (hO : M m = some (300, .inl (8, nL sa ha c xa tl ra la qa al ka rm pa fs fe za wa ua ap cm nu be en))) {S : Nat → Int32} (hS : M sa = some (301, .inr (0, 444, .inl S))) {T mo od ql : Nat} {q : Nat → Int32} {ln : Nat → Nat} {fl : Nat → Nat → Int32} {us : Nat → Int32} (hx : SR S T mo od ql q ln fl us) (hok : okX T mo od ql q ln fl) {so sn : Nat → Int32} (hSo : M ra = some (304, .inr (0, 384, .inl so))) (hSn : M la = some (305, .inr (0, 16, .inl sn))) {Q : Nat → Int32} (hQ : M qa = some (306, .inr (0, 24, .inl Q))) {K : Nat → Int32} (hK : M ka = some (307, .inr (0, 16, .inl K))) {P : Nat → Int32} (hP : M pa = some (308, .inr (0, 16, .inl P))) {a : Int32} : CC G iX7_isRank 0 0 [.ref m, .int a] M (fun r M1 => r = some (.int (mB (isIx a (rkN T mo od ql q ln fl us T).1))) ∧ M1 m = some (300, .inl (8, nL sa ha c xa tl ra la qa (qcN ql q) ka ((rkN T mo od ql q ln fl us T).1) pa fs fe za wa ua ap cm nu be en)) ∧ (∃ so1 sn1 : Nat → Int32, M1 ra = some (304, .inr (0, 384, .inl so1)) ∧ M1 la = some (305, .inr (0, 16, .inl sn1)) ∧ srO so1 sn1 T mo ln fl) ∧ (∃ Q1 : Nat → Int32, M1 qa = some (306, .inr (0, 24, .inl Q1))) ∧ (∃ K1 : Nat → Int32, M1 ka = some (307, .inr (0, 16, .inl K1)) ∧ ∀ j, j < (rkN T mo od ql q ln fl us T).1 → K1 j = nI ((rkN T mo od ql q ln fl us T).2 j)) ∧ (∃ P1 : Nat → Int32, M1 pa = some (308, .inr (0, 16, .inl P1)) ∧ ∀ u, u < T → P1 u = oI (pmO mo ql q (ln u) (fl u))) ∧ mZ [300, 304, 305, 306, 307, 308] M M1) := by
  refine CC.of rfl (Nat.le_of_ble_eq_true rfl) rfl (fun X C Tr => ?_)
  show V X 0 0 0 [some (.ref m), some (.int a)] [] M
  have hx8 := hx
  obtain ⟨hx0, hx1, hx2, hx3, hxq, hxt⟩ := hx
  have hT16 := hok.T16
  have hm4 := hok.m4
  have ho3 := hok.o3
  have hq24 := hok.q24
  have hrkl : (rkN T mo od ql q ln fl us T).1 ≤ T := (rkS_in (B := fun x y => cbB od x ((pmO mo ql q (ln x) (fl x)).getD 0) y ((pmO mo ql q (ln y) (fl y)).getD 0) ln fl us) (pm := fun x => pmO mo ql q (ln x) (fl x)) T).1
  refine s_aload_n C 1 dX7_isRank_0 rfl rfl ?_
  refine s_invV C 4 0 0 [] (mRv_of hO rfl) dX7_isRank_1 rfl m_X7_210 (n_findResults hO hS hx8 hok hSo hSn hQ hK hP) rfl rfl rfl ⟨by decide, by decide⟩ (Nat.le_of_ble_eq_true rfl) (by omega) (by omega) ?_
  rintro _ M1 ⟨rfl, hO7, hrest⟩
  dsimp only [Option.toList, List.cons_append, List.nil_append]
  have hO := hO7
  refine s_iload_n C 5 dX7_isRank_4 rfl rfl ?_
  refine s_iconst C 6 (nI 0) dX7_isRank_5 rfl (by decide) ?_
  refine s_aload_n C 7 dX7_isRank_6 rfl rfl ?_
  refine s_getf C 10 dX7_isRank_7 rfl f_X7_93 hO rfl ?_
  refine s_iconst C 11 (nI 1) dX7_isRank_10 rfl (by decide) ?_
  refine s_isub C 12 dX7_isRank_11 rfl ?_
  refine s_invS C 15 0 0 [] dX7_isRank_12 rfl m_X7_47 (n_within) rfl rfl rfl ⟨by decide, by decide⟩ (Nat.le_of_ble_eq_true rfl) (by omega) (by omega) ?_
  rintro _ M2 ⟨rfl, rfl⟩
  dsimp only [Option.toList, List.cons_append, List.nil_append]
  rw [wiB_ix (by omega)]
  exact s_zret C dX7_isRank_15 Tr rfl (mB_z _) ⟨rfl, hO7, hrest⟩

set_option maxRecDepth 100000 in
set_option maxHeartbeats 4000000 in
theorem n_whyTyped {G : mG} {M : mM} {m sa ha c xa tl ra la qa al ka rm pa za wa ua ap nu be en : Nat} {fs fe cm : Int32} (hO : M m = some (300, .inl (8, nL sa ha c xa tl ra la qa al ka rm pa fs fe za wa ua ap cm nu be en))) {S : Nat → Int32} (hS : M sa = some (301, .inr (0, 444, .inl S))) {T mo od ql : Nat} {q : Nat → Int32} {ln : Nat → Nat} {fl : Nat → Nat → Int32} {us : Nat → Int32} (hx : SR S T mo od ql q ln fl us) (hok : okX T mo od ql q ln fl) {xt g : Nat → Int32} (hX : M xa = some (303, .inr (0, 80, .inl xt))) (hXg : ∀ k, k < tl → xt k = g k) (htl : tl ≤ 80)  : CC G iX7_whyNotTyped 0 0 [.ref m] M (fun r M1 => r = some (.int (if itB g tl = true then refV T ln fl (fun j => g (0 + j)) tl else -5)) ∧ (∃ ap1 be1 en1, M1 m = some (300, .inl (8, nL sa ha c xa tl ra la qa al ka rm pa fs fe za wa ua ap1 cm nu be1 en1))) ∧ mZ [300] M M1) := by
  refine CC.of rfl (Nat.le_of_ble_eq_true rfl) rfl (fun X C Tr => ?_)
  show V X 0 0 0 [some (.ref m)] [] M
  have hx8 := hx
  obtain ⟨hx0, hx1, hx2, hx3, hxq, hxt⟩ := hx
  have hT16 := hok.T16
  have hm4 := hok.m4
  have ho3 := hok.o3
  have hq24 := hok.q24
  have hF : mZ [300] M M := mZ.rf
  refine s_aload_n C 1 dX7_whyNotTyped_0 rfl rfl ?_
  refine s_iconst C 2 (nI 0) dX7_whyNotTyped_1 rfl (by decide) ?_
  refine s_putU C 5 dX7_whyNotTyped_2 rfl p_X7_123 hO (by first | decide | omega) rfl rfl rfl (fs' := [.ref sa, .ref ha, .int (nI c), .ref xa, .int (nI tl), .ref ra, .ref la, .ref qa, .int (nI al), .ref ka, .int (nI rm), .ref pa, .int fs, .int fe, .ref za, .ref wa, .ref ua, .int (nI 0), .int cm, .int (nI nu), .int (nI be), .int (nI en)]) rfl (fun M1 U2 => ?_)
  have hS := U2.o hO hS (by first | decide | omega)
  have hX := U2.o hO hX (by first | decide | omega)
  have hF := hF.put U2 hO (by first | decide | (simp; done) | (simp; omega) | (simp [*]; done))
  have hO := U2.s
  refine s_aload_n C 6 dX7_whyNotTyped_5 rfl rfl ?_
  refine s_invV C 9 0 0 [] (mRv_of hO rfl) dX7_whyNotTyped_6 rfl m_X7_171 (n_readsTitle hO hX hXg htl (by omega)) rfl rfl rfl ⟨by decide, by decide⟩ (Nat.le_of_ble_eq_true rfl) (by omega) (by omega) ?_
  rintro _ M3 ⟨rfl, hO6, hFt⟩
  dsimp only [Option.toList, List.cons_append, List.nil_append]
  have hS := hFt.at hS (by decide)
  have hX := hFt.at hX (by decide)
  have hO := hO6
  have hF := hF.tr hFt
  have hpt := ptF_le (g := g) (n := tl) 24 0 true (Nat.zero_le _)
  refine s_if_eqB C 23 12 dX7_whyNotTyped_9 (by decide) rfl (fun z9 => ?_) (fun z9 => ?_)
  · skip
    have hz : itB g tl = false := by unfold itB; rw [z9]; rfl
    refine s_bipush C 25 (-5) dX7_whyNotTyped_23 rfl (by decide) ?_
    exact s_iret C dX7_whyNotTyped_25 Tr rfl ⟨by rw [if_neg (by rw [hz]; decide)], ⟨_, _, _, hO⟩, hF⟩
  · skip
    refine s_aload_n C 13 dX7_whyNotTyped_12 rfl rfl ?_
    refine s_getf C 16 dX7_whyNotTyped_13 rfl f_X7_123 hO rfl ?_
    refine s_aload_n C 17 dX7_whyNotTyped_16 rfl rfl ?_
    refine s_getf C 20 dX7_whyNotTyped_17 rfl f_X7_120 hO rfl ?_
    refine s_icmp_geN C 26 23 dX7_whyNotTyped_20 (by decide) rfl (by omega) (by omega) (fun z20 => ?_) (fun z20 => ?_)
    · skip
      have hz : itB g tl = true := by unfold itB; rw [z9, decide_eq_true (by omega)]; rfl
      refine s_aload_n C 27 dX7_whyNotTyped_26 rfl rfl ?_
      refine s_iconst C 28 (nI 0) dX7_whyNotTyped_27 rfl (by decide) ?_
      refine s_aload_n C 29 dX7_whyNotTyped_28 rfl rfl ?_
      refine s_getf C 32 dX7_whyNotTyped_29 rfl f_X7_120 hO rfl ?_
      refine s_invV C 35 0 0 [] (mRv_of hO rfl) dX7_whyNotTyped_32 rfl m_X7_213 (n_whyNot hO hS hx8 hok hX hXg htl (fr := 0) (to := tl) (Nat.zero_le _) (Nat.le_refl _)) rfl rfl rfl ⟨by decide, by decide⟩ (Nat.le_of_ble_eq_true rfl) (by omega) (by omega) ?_
      rintro _ M4 ⟨rfl, rfl⟩
      dsimp only [Option.toList, List.cons_append, List.nil_append]
      exact s_iret C dX7_whyNotTyped_35 Tr rfl ⟨by rw [if_pos hz]; rfl, ⟨_, _, _, hO⟩, hF⟩
    · skip
      have hz : itB g tl = false := by unfold itB; rw [decide_eq_false (by omega), Bool.and_false]
      refine s_bipush C 25 (-5) dX7_whyNotTyped_23 rfl (by decide) ?_
      exact s_iret C dX7_whyNotTyped_25 Tr rfl ⟨by rw [if_neg (by rw [hz]; decide)], ⟨_, _, _, hO⟩, hF⟩
