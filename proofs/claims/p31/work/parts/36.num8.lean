/-! the law's turns -/
theorem lLn_up {al : Nat → Nat} {T x : Nat} : lLn (va_up al T x) = adF (lLn al) T (tS x) := by
  funext i
  show tS (va_up al T x i) = adF (fun i => tS (al i)) T (tS x) i
  unfold va_up adF
  split <;> rfl
theorem lFl_up {al : Nat → Nat} {T x : Nat} : lFl (va_up al T x) = adF (lFl al) T (tF x) := by
  funext i
  show tF (va_up al T x i) = adF (fun i => tF (al i)) T (tF x) i
  unfold va_up adF
  split <;> rfl
theorem agT_up {al : Nat → Nat} {T x : Nat} : agT T (lLn (va_up al T x)) (lLn al) (lFl (va_up al T x)) (lFl al) := by
  intro t ht
  have e : va_up al T x t = al t := va_up_ne al x (by omega)
  exact ⟨by show tS (va_up al T x t) = _; rw [e], fun k _ => by show tF (va_up al T x t) k = _; rw [e]⟩
theorem TV_c {n : Nat} {f f' : Nat → Int32} (h : agF n f f') (hv : TV n f') : TV n f := by
  obtain ⟨h1, h2, h3, h4, h5, h6⟩ := hv
  exact ⟨h1, h2, by rw [h 0 (by omega)]; exact h3, by rw [h (n - 1) (by omega)]; exact h4, fun k hk e => by rw [h (k + 1) hk]; rw [h k (by omega)] at e; exact h5 k hk e, fun k hk => by rw [h k hk]; exact h6 k hk⟩
theorem okC_L {c : Int32} (h : okC c) (hn : c ≠ nI 32) : isL c = true := by
  unfold isL isD
  simp only [Bool.or_eq_true, decide_eq_true_eq]
  rcases h with h | h | h
  · exact absurd h hn
  · exact Or.inl ⟨i32_le.mp h.1, h.2⟩
  · exact Or.inr ⟨i32_le.mp h.1, i32_le.mp h.2⟩
theorem ptF_go {g : Nat → Int32} {n : Nat} (hv : TV n g) : ∀ (fu p : Nat) (nd : Bool), p ≤ n → n - p ≤ fu → (nd = true → p < n ∧ g p ≠ nI 32) → ptF g n fu p nd = (n, false) := by
  intro fu
  induction fu with
  | zero =>
    intro p nd h1 h2 h3
    have e : p = n := by omega
    subst e
    cases nd with
    | false => rfl
    | true => have := (h3 rfl).1; omega
  | succ fu ih =>
    intro p nd h1 h2 h3
    rw [ptF]
    by_cases hp : p < n
    · rw [if_pos hp]
      by_cases hb : g p = nI 32
      · have hnd : nd = false := by
          cases nd with
          | false => rfl
          | true => exact absurd hb (h3 rfl).2
        have hp1 : p + 1 < n := by
          by_cases e : p + 1 < n
          · exact e
          · have e2 : p = n - 1 := by omega
            rw [e2] at hb
            exact absurd hb hv.2.2.2.1
        rw [if_pos hb, if_neg (fun w => w.elim (fun q => by rw [hnd] at q; cases q) (fun q => by omega))]
        exact ih (p + 1) true (by omega) (by omega) (fun _ => ⟨hp1, hv.2.2.2.2.1 p hp1 hb⟩)
      · rw [if_neg hb, if_pos (okC_L (hv.2.2.2.2.2 p hp) hb)]
        exact ih (p + 1) false (by omega) (by omega) (fun q => by cases q)
    · have e : p = n := by omega
      rw [if_neg hp, e]
      cases nd with
      | false => rfl
      | true => have := (h3 rfl).1; omega
theorem it_go {g : Nat → Int32} {n : Nat} (hv : TV n g) : itB g n = true := by
  have h := ptF_go hv 24 0 true (Nat.zero_le _) (by have := hv.2.1; omega) (fun _ => ⟨by have := hv.1; omega, hv.2.2.1⟩)
  unfold itB
  rw [h]
  simp
/-- whether the title is there -/
def thB (al : Nat → Nat) (x u : Nat) : Bool := decide (∃ i, i < u ∧ al i = x)
theorem thB_y {al : Nat → Nat} {x u : Nat} (h : thB al x u = true ∨ al u = x) : thB al x (u + 1) = true := by
  unfold thB at *
  refine decide_eq_true ?_
  rcases h with h | h
  · obtain ⟨i, h1, h2⟩ := of_decide_eq_true h
    exact ⟨i, by omega, h2⟩
  · exact ⟨u, Nat.lt_succ_self _, h⟩
theorem thB_n {al : Nat → Nat} {x u : Nat} (h : thB al x u = false) (h2 : ¬ al u = x) : thB al x (u + 1) = false := by
  unfold thB at *
  refine decide_eq_false (fun ⟨i, h3, h4⟩ => ?_)
  by_cases e : i = u
  · rw [e] at h4; exact h2 h4
  · exact (of_decide_eq_false h) ⟨i, by omega, h4⟩
theorem thB_no {al : Nat → Nat} {x u : Nat} (h : thB al x u = false) : ∀ i, i < u → ¬ al i = x := fun i hi e => by
  unfold thB at h
  exact (of_decide_eq_false h) ⟨i, hi, e⟩
theorem thB_dup {al : Nat → Nat} {x T : Nat} (hg : ∀ i, i < T → gT (al i)) (hx : gT x) : dupB T (lLn al) (lFl al) (tF x) (tS x) = thB al x T := by
  unfold dupB thB
  refine decide_eq_decide.mpr ⟨?_, ?_⟩
  · rintro ⟨t, ht, h⟩; exact ⟨t, ht, (gT_ext (hg t ht) hx).mpr h⟩
  · rintro ⟨t, ht, h⟩; exact ⟨t, ht, (gT_ext (hg t ht) hx).mp h⟩
theorem rf_v {T x : Nat} {ln al : Nat → Nat} {fl : Nat → Nat → Int32} {g : Nat → Int32} (R1 : agT T ln (lLn al) fl (lFl al)) (hg : ∀ i, i < T → gT (al i)) (hx : gT x) (hT : T < 6) (hgx : agF (tS x) (fun j => g (0 + j)) (tF x)) : refV T ln fl (fun j => g (0 + j)) (tS x) = if thB al x T = true then -3 else nI 0 := by
  rw [refV_cc R1 hgx]
  unfold refV
  rw [thB_dup hg hx, if_neg (show ¬ 16 ≤ T by omega)]
theorem rf_y {T x : Nat} {ln al : Nat → Nat} {fl : Nat → Nat → Int32} {g : Nat → Int32} (R1 : agT T ln (lLn al) fl (lFl al)) (hg : ∀ i, i < T → gT (al i)) (hx : gT x) (hT : T < 6) (hgx : agF (tS x) (fun j => g (0 + j)) (tF x)) (h : thB al x T = true) : refV T ln fl (fun j => g (0 + j)) (tS x) = -3 := by rw [rf_v R1 hg hx hT hgx, if_pos h]
theorem rf_n {T x : Nat} {ln al : Nat → Nat} {fl : Nat → Nat → Int32} {g : Nat → Int32} (R1 : agT T ln (lLn al) fl (lFl al)) (hg : ∀ i, i < T → gT (al i)) (hx : gT x) (hT : T < 6) (hgx : agF (tS x) (fun j => g (0 + j)) (tF x)) (h : thB al x T = false) : refV T ln fl (fun j => g (0 + j)) (tS x) = nI 0 := by rw [rf_v R1 hg hx hT hgx, if_neg (by rw [h]; decide)]
/-- one code for keys: no two the same -/
theorem bst_0 {P : Nat → Nat → Bool} (h : ¬ 0 < (bst P).2) : bst P = (0, 0) := by
  unfold bst at h ⊢
  split
  · rfl
  · rename_i l hl
    rw [hl] at h
    have := (fnd_some _ _ _).mp hl
    exact absurd (show 0 < l by omega) h
theorem bC_inj {P R : Nat → Nat → Bool} : bC (bst P) = bC (bst R) ↔ bst P = bst R := by
  constructor
  · intro h
    have hp := bst_lt (P := P)
    have hr := bst_lt (P := R)
    unfold bC at h
    by_cases c : 0 < (bst P).2
    · rw [if_pos c] at h
      by_cases d : 0 < (bst R).2
      · rw [if_pos d, nI_eq (by omega) (by omega)] at h
        exact Prod.ext (by omega) (by omega)
      · rw [if_neg d] at h
        have : (nI (100 * (bst P).1 + (bst P).2)).toInt = (-6 : Int32).toInt := congrArg Int32.toInt h
        rw [nI_toInt (by omega)] at this
        have e : (-6 : Int32).toInt = -6 := by decide
        omega
    · rw [if_neg c] at h
      by_cases d : 0 < (bst R).2
      · rw [if_pos d] at h
        have : (-6 : Int32).toInt = (nI (100 * (bst R).1 + (bst R).2)).toInt := congrArg Int32.toInt h
        rw [nI_toInt (by omega)] at this
        have e : (-6 : Int32).toInt = -6 := by decide
        omega
      · rw [bst_0 c, bst_0 d]
  · intro h; rw [h]
/-- how many keys change with one title more, in the law's words -/
def chL (T mo : Nat) (al : Nat → Nat) (x u : Nat) : Nat := chN T mo (lLn al) (lFl al) (tS x) (tF x) u
theorem chL_y {T mo x u : Nat} {al : Nat → Nat} (hu : u < T) (h : bC (kyN (T + 1) mo (lLn (va_up al T x)) (lFl (va_up al T x)) u) = bC (kyN T mo (lLn (va_up al T x)) (lFl (va_up al T x)) u)) : chL T mo al x (u + 1) = chL T mo al x u + 0 := by
  have h := bC_inj.mp h
  have h : kyN (T + 1) mo (lLn (va_up al T x)) (lFl (va_up al T x)) u = kyN T mo (lLn (va_up al T x)) (lFl (va_up al T x)) u := h
  rw [kyN_c (T := T) agT_up hu, lLn_up, lFl_up] at h
  unfold chL
  rw [chN, if_pos h]
theorem chL_n {T mo x u : Nat} {al : Nat → Nat} (hu : u < T) (h : ¬ bC (kyN (T + 1) mo (lLn (va_up al T x)) (lFl (va_up al T x)) u) = bC (kyN T mo (lLn (va_up al T x)) (lFl (va_up al T x)) u)) : chL T mo al x (u + 1) = chL T mo al x u + 1 := by
  have h : ¬ kyN (T + 1) mo (lLn (va_up al T x)) (lFl (va_up al T x)) u = kyN T mo (lLn (va_up al T x)) (lFl (va_up al T x)) u := fun w => h (by rw [w])
  rw [kyN_c (T := T) agT_up hu, lLn_up, lFl_up] at h
  unfold chL
  rw [chN, if_neg h]
theorem ia_y {T mo x : Nat} {ln al : Nat → Nat} {fl : Nat → Nat → Int32} {g : Nat → Int32} (R1 : agT T ln (lLn al) fl (lFl al)) (hg : ∀ i, i < T → gT (al i)) (hx : gT x) (hT : T < 6) (hgx : agF (tS x) (fun j => g (0 + j)) (tF x)) (hit : itB g (tS x) = true) (h : thB al x T = true) : (if itB g (tS x) = true then (if refV T ln fl (fun j => g (0 + j)) (tS x) < 0 then refV T ln fl (fun j => g (0 + j)) (tS x) else nI (chN T mo ln fl (tS x) (fun j => g (0 + j)) T)) else -5) = -3 := by
  rw [if_pos hit, rf_y R1 hg hx hT hgx h, if_pos (by decide)]
theorem ia_n {T mo x : Nat} {ln al : Nat → Nat} {fl : Nat → Nat → Int32} {g : Nat → Int32} (R1 : agT T ln (lLn al) fl (lFl al)) (hg : ∀ i, i < T → gT (al i)) (hx : gT x) (hT : T < 6) (hgx : agF (tS x) (fun j => g (0 + j)) (tF x)) (hit : itB g (tS x) = true) (h : thB al x T = false) : (if itB g (tS x) = true then (if refV T ln fl (fun j => g (0 + j)) (tS x) < 0 then refV T ln fl (fun j => g (0 + j)) (tS x) else nI (chN T mo ln fl (tS x) (fun j => g (0 + j)) T)) else -5) = nI (chL T mo al x T) := by
  rw [if_pos hit, rf_n R1 hg hx hT hgx h, if_neg (by decide), chN_c R1 hgx T (Nat.le_refl _)]
  rfl
/-- characters that may be typed, that may be asked for -/
theorem ty_c : ∀ c, c < 29 → c ≠ 0 → tyB (nI (tC c)) = true := by decide +kernel
theorem as_c : ∀ c, c < 29 → c ≠ 0 → (nI (tC c) = nI 32 ∨ isL (nI (tC c)) = true) := by decide +kernel
theorem as_32 : ∀ c, c < 29 → c ≠ 0 → (nI (tC c) = nI 32 ↔ c = 27) := by decide +kernel
theorem qe_v {q : Nat} {q9 : Nat → Int32} (hq : gQ q) (R3 : agF (tS q) q9 (tF q)) : qeB (tS q) q9 = false ↔ ¬ (0 < tS q ∧ tA q (tS q - 1) ≠ 27) := by
  rw [(qcN_q R3).1]
  unfold qeB
  rw [decide_eq_false_iff_not]
  refine not_congr ⟨fun w => ⟨w.1, fun e => w.2 ((tF_32 hq.2.1 (by omega)).mpr e)⟩, fun w => ⟨w.1, fun e => w.2 ((tF_32 hq.2.1 (by omega)).mp e)⟩⟩
theorem as_y {q c : Nat} {q9 : Nat → Int32} (hq : gQ q) (R3 : agF (tS q) q9 (tF q)) (hc : c < 29) (h0 : c ≠ 0) (hcan : c = 27 → 0 < tS q ∧ tA q (tS q - 1) ≠ 27) : ((nI (tC c) = nI 32 ∨ isL (nI (tC c)) = true) ∧ ¬ (nI (tC c) = nI 32 ∧ qeB (tS q) q9 = false) ∧ tS q < 24) := by
  have := hq.2.2.1
  exact ⟨as_c c hc h0, fun w => (qe_v hq R3).mp w.2 (hcan ((as_32 c hc h0).mp w.1)), by omega⟩
theorem as_n {q c : Nat} {q9 : Nat → Int32} (hq : gQ q) (R3 : agF (tS q) q9 (tF q)) (hc : c < 29) (h0 : c ≠ 0) (h27 : c = 27) (hcan : ¬ (0 < tS q ∧ tA q (tS q - 1) ≠ 27)) : nI (tC c) = nI 32 ∧ qeB (tS q) q9 = false := ⟨(as_32 c hc h0).mpr h27, (qe_v hq R3).mpr hcan⟩
theorem as_vy {a : Int32} {ql : Nat} {q9 : Nat → Int32} {y : Int32} (h : ((a = nI 32 ∨ isL a = true) ∧ ¬ (a = nI 32 ∧ qeB ql q9 = false) ∧ ql < 24)) : (if ¬ (a = nI 32 ∨ isL a = true) then -2 else if a = nI 32 ∧ qeB ql q9 = false then -3 else if 24 ≤ ql then -4 else y) = y := by
  rw [if_neg (fun w => w h.1), if_neg h.2.1, if_neg (by omega)]
theorem as_vn {a : Int32} {ql : Nat} {q9 : Nat → Int32} {y : Int32} (h : a = nI 32 ∧ qeB ql q9 = false) : (if ¬ (a = nI 32 ∨ isL a = true) then -2 else if a = nI 32 ∧ qeB ql q9 = false then -3 else if 24 ≤ ql then -4 else y) = -3 := by
  rw [if_neg (fun w => w (Or.inl h.1)), if_pos h]
/-- what holds between two turns -/
def lwI (G : mG) (M : mM) (z qa aa T mo od q : Nat) (Q : Nat → Int32) (al : Nat → Nat) : Prop := (∃ q9 ln fl us c hs tg, zR G M z (T, mo, od, tS q, q9, ln, fl, us) c hs 0 tg ∧ agT T ln (lLn al) fl (lFl al) ∧ agU T us (lUs Q) ∧ agF (tS q) q9 (tF q)) ∧ M qa = some (300, .inr (0, 9, .inl Q)) ∧ M aa = some (301, .inr (5, 7, .inr (lA al))) ∧ Q 0 = nI T ∧ Q 1 = nI mo ∧ Q 2 = nI od ∧ T ≤ 6 ∧ mo < 4 ∧ od < 3 ∧ (∀ i, i < T → gT (al i)) ∧ (∀ i j, i < T → j < T → i ≠ j → ¬ al i = al j) ∧ gQ q
theorem tz_300 {t : Nat} (h : t ∈ TZ) : t ≠ 300 ∧ t ≠ 301 := by rw [mem_TZ] at h; omega
theorem TZ_q : 300 ∉ TZ := by rw [mem_TZ]; omega
theorem TZ_a : 301 ∉ TZ := by rw [mem_TZ]; omega
theorem TZ_s : ∀ t ∈ [30, 31, 32, 40, 42], t ∈ TZ := by decide
theorem up_no {Q : Nat → Int32} {i j : Nat} {v : Int32} (h : j ≠ i) : upd Q i v j = Q j := pk_un h
theorem vn_i32 {a : Int32} {n : Nat} (h : n < 2 ^ 31) (e : a = nI n) : a.toNatClampNeg = n := by rw [e, nI_clamp h]
