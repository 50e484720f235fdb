/-! the class's answers in the law's words -/
theorem isIx_no {j T : Nat} (h : T ≤ j) (hj : j < 2 ^ 31) : isIx (nI j) T = false := by
  unfold isIx
  exact decide_eq_false (fun w => w.2 (nI_le h hj))
theorem ch_v {T t k : Nat} {ln al : Nat → Nat} {fl : Nat → Nat → Int32} (R1 : agT T ln (lLn al) fl (lFl al)) (ht : t < T) (hT : T ≤ 6) (hk : k < tS (al t)) : (if (isIx (nI t) T && isIx (nI k) (ln (nI t).toNatClampNeg)) = true then fl (nI t).toNatClampNeg (nI k).toNatClampNeg else -1) = nI (tC (tA (al t) k)) := by
  have h12 := tS_le (t := al t)
  have e1 : (nI t).toNatClampNeg = t := nI_clamp (by omega)
  have e2 : (nI k).toNatClampNeg = k := nI_clamp (by omega)
  obtain ⟨h1, h2⟩ := R1 t ht
  have h1 : ln t = tS (al t) := h1
  rw [e1, e2, if_pos (by rw [isIx_n ht (by omega), h1, isIx_n hk (by omega)]; rfl)]
  exact h2 k (by omega)
theorem ch_e {T t : Nat} {ln al : Nat → Nat} {fl : Nat → Nat → Int32} (R1 : agT T ln (lLn al) fl (lFl al)) (ht : t < T) (hT : T ≤ 6) : (if (isIx (nI t) T && isIx (nI (tS (al t))) (ln (nI t).toNatClampNeg)) = true then fl (nI t).toNatClampNeg (nI (tS (al t))).toNatClampNeg else -1) = -1 := by
  have h12 := tS_le (t := al t)
  have e1 : (nI t).toNatClampNeg = t := nI_clamp (by omega)
  obtain ⟨h1, h2⟩ := R1 t ht
  have h1 : ln t = tS (al t) := h1
  rw [e1, if_neg (by rw [h1, isIx_no (Nat.le_refl _) (by omega), Bool.and_false]; decide)]
theorem of_v {T mo od t w : Nat} {ln al : Nat → Nat} {fl : Nat → Nat → Int32} {us Q : Nat → Int32} (R1 : agT T ln (lLn al) fl (lFl al)) (R2 : agU T us (lUs Q)) (ht : t < T) (hT : T ≤ 6) (hw : w < 7) : (if (isIx (nI t) T) = true then (if (isIx (nI w) 7) = true then (ofN (ln (nI t).toNatClampNeg) (1 + cnB (fl (nI t).toNatClampNeg) (ln (nI t).toNatClampNeg)) (us (nI t).toNatClampNeg) (kyN T mo ln fl (nI t).toNatClampNeg).1 (kyN T mo ln fl (nI t).toNatClampNeg).2 (shN T mo od ln fl us (nI t).toNatClampNeg).1 (shN T mo od ln fl us (nI t).toNatClampNeg).2 (nI w).toNatClampNeg) else -2) else -1) = ofN (tS (al t)) (1 + cnB (tF (al t)) (tS (al t))) (Q (3 + t)) (kyN T mo (lLn al) (lFl al) t).1 (kyN T mo (lLn al) (lFl al) t).2 (shN T mo od (lLn al) (lFl al) (lUs Q) t).1 (shN T mo od (lLn al) (lFl al) (lUs Q) t).2 w := by
  have e1 : (nI t).toNatClampNeg = t := nI_clamp (by omega)
  have e2 : (nI w).toNatClampNeg = w := nI_clamp (by omega)
  obtain ⟨h1, h2⟩ := R1 t ht
  have h1 : ln t = tS (al t) := h1
  rw [e1, e2, if_pos (isIx_n ht (by omega)), if_pos (isIx_n hw (by omega)), kyN_c R1 ht, shN_c R1 R2 ht, cnB_c h2 _ (Nat.le_refl _), h1, R2 t ht]
theorem of_e {T mo od : Nat} {ln : Nat → Nat} {fl : Nat → Nat → Int32} {us : Nat → Int32} {b : Int32} (hT : T ≤ 6) : (if (isIx (nI T) T) = true then (if (isIx b 7) = true then (ofN (ln (nI T).toNatClampNeg) (1 + cnB (fl (nI T).toNatClampNeg) (ln (nI T).toNatClampNeg)) (us (nI T).toNatClampNeg) (kyN T mo ln fl (nI T).toNatClampNeg).1 (kyN T mo ln fl (nI T).toNatClampNeg).2 (shN T mo od ln fl us (nI T).toNatClampNeg).1 (shN T mo od ln fl us (nI T).toNatClampNeg).2 b.toNatClampNeg) else -2) else -1) = -1 := if_neg (by rw [isIx_no (Nat.le_refl _) (by omega)]; decide)
/-- the common part of t and u -/
def cmR (al : Nat → Nat) (t u : Nat) : Nat := cmI (tF (al t)) (tF (al u)) (tS (al t)) (tS (al u)) (tS (al t))
theorem cmR_le {al : Nat → Nat} {t u : Nat} : cmR al t u ≤ 24 := cmI_le _
theorem cm_v {T a b : Nat} {ln al : Nat → Nat} {fl : Nat → Nat → Int32} (R1 : agT T ln (lLn al) fl (lFl al)) (ha : a < T) (hb : b < T) (hT : T ≤ 6) : (if (isIx (nI a) T && isIx (nI b) T) = true then nI (cmI (fl (nI a).toNatClampNeg) (fl (nI b).toNatClampNeg) (ln (nI a).toNatClampNeg) (ln (nI b).toNatClampNeg) (ln (nI a).toNatClampNeg)) else -1) = nI (cmR al a b) := by
  rw [nI_clamp (show a < 2 ^ 31 by omega), nI_clamp (show b < 2 ^ 31 by omega), if_pos (by rw [isIx_n ha (by omega), isIx_n hb (by omega)]; rfl), cm2_c R1 ha hb]
  rfl
theorem cl_v {T a : Nat} {ln al : Nat → Nat} {fl : Nat → Nat → Int32} (R1 : agT T ln (lLn al) fl (lFl al)) (ha : a < T) (hT : T ≤ 6) : (if isIx (nI a) T = true then oI (clN (fun i => cmI (fl (nI a).toNatClampNeg) (fl i) (ln (nI a).toNatClampNeg) (ln i) (ln (nI a).toNatClampNeg)) (nI a).toNatClampNeg T) else -1) = oI (clN (cmR al a) a T) := by
  rw [nI_clamp (show a < 2 ^ 31 by omega), if_pos (isIx_n ha (by omega))]
  exact congrArg oI (clN_c T (fun j hj => cm2_c R1 ha hj))
/-- the nearest among those from v on -/
def nrI (R : Nat → Nat) (t v T : Nat) : Option Nat → Prop
  | none => ∀ u, v ≤ u → u < T → u = t
  | some b => v ≤ b ∧ b < T ∧ b ≠ t ∧ ∀ u, v ≤ u → u < T → u ≠ t → R u ≤ R b ∧ (R u = R b → b ≤ u)
theorem nrI_cl {R : Nat → Nat} {t : Nat} : ∀ i, nrI R t 0 i (clN R t i) := by
  intro i
  induction i with
  | zero => intro u _ h; omega
  | succ i ih =>
    rw [clN]
    by_cases e : i = t
    · rw [if_pos e]
      cases q : clN R t i with
      | none =>
        rw [q] at ih
        intro u _ h
        by_cases w : u = i
        · rw [w]; exact e
        · exact ih u (Nat.zero_le _) (by omega)
      | some b =>
        rw [q] at ih
        obtain ⟨h1, h2, h3, h4⟩ := ih
        exact ⟨h1, by omega, h3, fun u _ hu hn => h4 u (Nat.zero_le _) (by omega) hn⟩
    · rw [if_neg e]
      cases q : clN R t i with
      | none =>
        rw [q] at ih
        refine ⟨Nat.zero_le _, Nat.lt_succ_self _, e, fun u _ hu hn => ?_⟩
        by_cases w : u = i
        · rw [w]; exact ⟨Nat.le_refl _, fun _ => Nat.le_refl _⟩
        · exact absurd (ih u (Nat.zero_le _) (by omega)) hn
      | some b =>
        rw [q] at ih
        obtain ⟨h1, h2, h3, h4⟩ := ih
        show nrI R t 0 (i + 1) (if R b < R i then some i else some b)
        by_cases c : R b < R i
        · rw [if_pos c]
          refine ⟨Nat.zero_le _, Nat.lt_succ_self _, e, fun u _ hu hn => ?_⟩
          by_cases w : u = i
          · rw [w]; exact ⟨Nat.le_refl _, fun _ => Nat.le_refl _⟩
          · have := h4 u (Nat.zero_le _) (by omega) hn
            omega
        · rw [if_neg c]
          refine ⟨Nat.zero_le _, by omega, h3, fun u _ hu hn => ?_⟩
          by_cases w : u = i
          · rw [w]; omega
          · exact h4 u (Nat.zero_le _) (by omega) hn
theorem nrI_un {R : Nat → Nat} {t T : Nat} {o o' : Option Nat} (h : nrI R t 0 T o) (h' : nrI R t 0 T o') : o = o' := by
  cases o with
  | none =>
    cases o' with
    | none => rfl
    | some b => exact absurd (h b (Nat.zero_le _) h'.2.1) h'.2.2.1
  | some b =>
    cases o' with
    | none => exact absurd (h' b (Nat.zero_le _) h.2.1) h.2.2.1
    | some b' =>
      have a := h.2.2.2 b' (Nat.zero_le _) h'.2.1 h'.2.2.1
      have c := h'.2.2.2 b (Nat.zero_le _) h.2.1 h.2.2.1
      have e : b = b' := by omega
      rw [e]
theorem nrI_t {R : Nat → Nat} {t v T : Nat} {o : Option Nat} (hv : 0 < v) (h : nrI R t v T o) (e : v - 1 = t) : nrI R t (v - 1) T o := by
  cases o with
  | none =>
    intro u h1 h2
    by_cases w : u = v - 1
    · omega
    · exact h u (by omega) h2
  | some b =>
    obtain ⟨h1, h2, h3, h4⟩ := h
    exact ⟨by omega, h2, h3, fun u g1 g2 g3 => h4 u (by omega) g2 g3⟩
theorem nrI_0 {R : Nat → Nat} {t v T : Nat} (hv : 0 < v) (hvT : v ≤ T) (h : nrI R t v T none) (e : v - 1 ≠ t) : nrI R t (v - 1) T (some (v - 1)) := by
  refine ⟨Nat.le_refl _, by omega, e, fun u g1 g2 g3 => ?_⟩
  by_cases w : u = v - 1
  · rw [w]; exact ⟨Nat.le_refl _, fun _ => Nat.le_refl _⟩
  · exact absurd (h u (by omega) g2) g3
theorem nrI_y {R : Nat → Nat} {t v T b : Nat} (hv : 0 < v) (hvT : v ≤ T) (h : nrI R t v T (some b)) (e : v - 1 ≠ t) (c : R b ≤ R (v - 1)) : nrI R t (v - 1) T (some (v - 1)) := by
  obtain ⟨h1, h2, h3, h4⟩ := h
  refine ⟨Nat.le_refl _, by omega, e, fun u g1 g2 g3 => ?_⟩
  by_cases w : u = v - 1
  · rw [w]; exact ⟨Nat.le_refl _, fun _ => Nat.le_refl _⟩
  · have := h4 u (by omega) g2 g3
    exact ⟨by omega, fun _ => by omega⟩
theorem nrI_n {R : Nat → Nat} {t v T b : Nat} (hv : 0 < v) (h : nrI R t v T (some b)) (c : R (v - 1) < R b) : nrI R t (v - 1) T (some b) := by
  obtain ⟨h1, h2, h3, h4⟩ := h
  refine ⟨by omega, h2, h3, fun u g1 g2 g3 => ?_⟩
  by_cases w : u = v - 1
  · rw [w]; exact ⟨by omega, fun _ => by omega⟩
  · exact h4 u (by omega) g2 g3
theorem rk_num {T mo od ql : Nat} {q : Nat → Int32} {ln : Nat → Nat} {fl : Nat → Nat → Int32} {us : Nat → Int32} : cntP (fun w => (pmO mo ql q (ln w) (fl w)).isSome) T = (rkN T mo od ql q ln fl us T).1 := by
  have h := rk_cnt (B := fun x y => cbB od x ((pmO mo ql q (ln x) (fl x)).getD 0) y ((pmO mo ql q (ln y) (fl y)).getD 0) ln fl us) (pm := fun x => pmO mo ql q (ln x) (fl x)) (P := fun _ => true) T
  have h2 : cntP (fun _ => true) (rkN T mo od ql q ln fl us T).1 = (rkN T mo od ql q ln fl us T).1 := cntP_p _ (Nat.le_refl _) (fun _ _ => rfl) (fun j a b => by omega)
  have h3 : cntP (fun w => (pmO mo ql q (ln w) (fl w)).isSome && true) T = (rkN T mo od ql q ln fl us T).1 := h.trans h2
  rw [← h3]
  exact cntP_cong T (fun j _ => (Bool.and_true _).symm)
theorem rkN_T {T mo od ql : Nat} {q : Nat → Int32} {ln : Nat → Nat} {fl : Nat → Nat → Int32} {us : Nat → Int32} : (rkN T mo od ql q ln fl us T).1 ≤ T ∧ ∀ k, k < (rkN T mo od ql q ln fl us T).1 → (rkN T mo od ql q ln fl us T).2 k < T ∧ (pmO mo ql q (ln ((rkN T mo od ql q ln fl us T).2 k)) (fl ((rkN T mo od ql q ln fl us T).2 k))).isSome = true := rkS_in T
theorem rs_v {T mo od k q : Nat} {q9 : Nat → Int32} {ln al : Nat → Nat} {fl : Nat → Nat → Int32} {us Q : Nat → Int32} (R1 : agT T ln (lLn al) fl (lFl al)) (R2 : agU T us (lUs Q)) (R3 : agF (tS q) q9 (tF q)) (hk : k < 1000) (hT : T ≤ 6) : (if isIx (nI k) (rkN T mo od (tS q) q9 ln fl us T).1 = true then nI ((rkN T mo od (tS q) q9 ln fl us T).2 (nI k).toNatClampNeg) else -1) = (if k < (rkN T mo od (tS q) (tF q) (lLn al) (lFl al) (lUs Q) T).1 then nI ((rkN T mo od (tS q) (tF q) (lLn al) (lFl al) (lUs Q) T).2 k) else -1) := by
  rw [nI_clamp (show k < 2 ^ 31 by omega), rkN_c R1 R2 R3]
  have h1 := (rkN_T (T := T) (mo := mo) (od := od) (ql := tS q) (q := tF q) (ln := lLn al) (fl := lFl al) (us := lUs Q)).1
  by_cases c : k < (rkN T mo od (tS q) (tF q) (lLn al) (lFl al) (lUs Q) T).1
  · rw [if_pos (isIx_n c (by omega)), if_pos c]
  · rw [if_neg (by rw [isIx_no (by omega) (by omega)]; decide), if_neg c]
theorem mp_v {T mo od k q : Nat} {q9 : Nat → Int32} {ln al : Nat → Nat} {fl : Nat → Nat → Int32} {us Q : Nat → Int32} (R1 : agT T ln (lLn al) fl (lFl al)) (R2 : agU T us (lUs Q)) (R3 : agF (tS q) q9 (tF q)) (hT : T ≤ 6) (hk : k < (rkN T mo od (tS q) (tF q) (lLn al) (lFl al) (lUs Q) T).1) : (if isIx (nI k) (rkN T mo od (tS q) q9 ln fl us T).1 = true then nI (plN mo (tS q) q9 ln fl ((rkN T mo od (tS q) q9 ln fl us T).2 (nI k).toNatClampNeg)) else -1) = nI (plN mo (tS q) (tF q) (lLn al) (lFl al) ((rkN T mo od (tS q) (tF q) (lLn al) (lFl al) (lUs Q) T).2 k)) := by
  have h1 := (rkN_T (T := T) (mo := mo) (od := od) (ql := tS q) (q := tF q) (ln := lLn al) (fl := lFl al) (us := lUs Q))
  rw [nI_clamp (show k < 2 ^ 31 by omega), rkN_c R1 R2 R3, if_pos (isIx_n hk (by omega)), plN_c R1 R3 (h1.2 k hk).1]
theorem qc_v {q k : Nat} {q9 : Nat → Int32} (R3 : agF (tS q) q9 (tF q)) (hk : k < tS q) : (if isIx (nI k) (tS q) = true then q9 (nI k).toNatClampNeg else -1) = nI (tC (tA q k)) := by
  have h12 := tS_le (t := q)
  rw [nI_clamp (show k < 2 ^ 31 by omega), if_pos (isIx_n hk (by omega))]
  exact R3 k hk
theorem kS_p {k : Nat × Nat} (h : 0 < k.2) (hb : k.1 < 25 ∧ k.2 < 25) : bC k = nI (100 * k.1 + k.2) ∧ fdS k = nI ((100 * k.1 + k.2) / 100) ∧ fdL k = nI ((100 * k.1 + k.2) % 100) ∧ (100 * k.1 + k.2) % 100 = k.2 := by
  refine ⟨if_pos h, ?_, ?_, by omega⟩
  · rw [show (100 * k.1 + k.2) / 100 = k.1 by omega]; exact if_pos h
  · rw [show (100 * k.1 + k.2) % 100 = k.2 by omega]; exact if_pos h
theorem kS_n {k : Nat × Nat} (h : ¬ 0 < k.2) : bC k = -6 ∧ fdS k = -6 ∧ fdL k = -6 := ⟨if_neg h, if_neg h, if_neg h⟩
theorem kyN_25 {T mo t : Nat} {ln : Nat → Nat} {fl : Nat → Nat → Int32} : (kyN T mo ln fl t).1 < 25 ∧ (kyN T mo ln fl t).2 < 25 := bst_lt
theorem shN_25 {T mo od t : Nat} {ln : Nat → Nat} {fl : Nat → Nat → Int32} {us : Nat → Int32} : (shN T mo od ln fl us t).1 < 25 ∧ (shN T mo od ln fl us t).2 < 25 := bst_lt
theorem unN_p {T mo t : Nat} {ln : Nat → Nat} {fl : Nat → Nat → Int32} (h : 0 < (kyN T mo ln fl t).2) : unN T mo ln fl (t + 1) = unN T mo ln fl t + 0 := by rw [unN, if_pos h]
theorem unN_n {T mo t : Nat} {ln : Nat → Nat} {fl : Nat → Nat → Int32} (h : ¬ 0 < (kyN T mo ln fl t).2) : unN T mo ln fl (t + 1) = unN T mo ln fl t + 1 := by rw [unN, if_neg h]
theorem hdN_y {T mo t : Nat} {ln : Nat → Nat} {fl : Nat → Nat → Int32} (h : (hdN T mo ln fl t).1 < (kyN T mo ln fl t).2) : hdN T mo ln fl (t + 1) = ((kyN T mo ln fl t).2, some t) := by rw [hdN, if_pos h]
theorem hdN_n {T mo t : Nat} {ln : Nat → Nat} {fl : Nat → Nat → Int32} (h : ¬ (hdN T mo ln fl t).1 < (kyN T mo ln fl t).2) : hdN T mo ln fl (t + 1) = hdN T mo ln fl t := by rw [hdN, if_neg h]
theorem hdN_25 {T mo : Nat} {ln : Nat → Nat} {fl : Nat → Nat → Int32} : ∀ t, (hdN T mo ln fl t).1 < 25 := by
  intro t
  induction t with
  | zero => show 0 < 25; decide
  | succ t ih =>
    rw [hdN]
    split
    · exact kyN_25.2
    · exact ih
