/-! the law's other words -/
def lw (v : Int32) (m : Nat) : Nat := v.toBitVec.toNat % 2 ^ 31 % m
theorem lw_and (v : Int32) : v &&& (2147483647) = nI (v.toBitVec.toNat % 2 ^ 31) := pk_and v 31 (by decide)
theorem lw_lt {v : Int32} {m : Nat} (h : 0 < m) : lw v m < m := Nat.mod_lt _ h
theorem and31 {x : Nat} : x &&& 31 = x % 32 := Nat.and_two_pow_sub_one_eq_mod x 5
theorem tP_lt {f s l mo : Nat} (hl : l ≤ 12) : tP f s l mo < 2 ^ 60 := by
  by_cases h : tPc f s l mo
  · rw [tP_y h]
    exact Nat.lt_of_lt_of_le (Nat.mod_lt _ (Nat.two_pow_pos _)) (Nat.pow_le_pow_right (by decide) (by omega))
  · rw [tP_n h]; decide
def oJ : Option Nat → Int32
  | none => -1
  | some p => nI p
/-- what counts of a query -/
def tCut (q : Nat) : Nat := if 0 < tS q ∧ tA q (tS q - 1) = 27 then q % 2 ^ (5 * (tS q - 1)) else q
def gQ (q : Nat) : Prop := gn q ∧ ch28 q ∧ tS q ≤ 9 ∧ (0 < tS q → tA q 0 ≠ 27) ∧ ∀ k, k + 1 < tS q → tA q k = 27 → tA q (k + 1) ≠ 27
theorem gQ_0 : gQ 0 := ⟨gn_0.1, fun k hk => by rw [gn_0.2] at hk; omega, by rw [gn_0.2]; omega, fun h => by rw [gn_0.2] at h; omega, fun k hk => by rw [gn_0.2] at hk; omega⟩
theorem gQ_or {v a : Nat} (h : gQ v) (h9 : tS v < 9) (ha : a ≤ 28) (h0 : a ≠ 0) (hc : a = 27 → 0 < tS v ∧ tA v (tS v - 1) ≠ 27) : v ||| a * 2 ^ (5 * tS v) = v + a * 2 ^ (5 * tS v) ∧ gQ (v + a * 2 ^ (5 * tS v)) ∧ tS (v + a * 2 ^ (5 * tS v)) = tS v + 1 ∧ (∀ k, k < tS v → tA (v + a * 2 ^ (5 * tS v)) k = tA v k) ∧ tA (v + a * 2 ^ (5 * tS v)) (tS v) = a := by
  obtain ⟨h1, h2, h3, h4, h5⟩ := h
  obtain ⟨g1, g2⟩ := gn_add h1 (by omega) (show a < 32 by omega) h0
  have hd : ∀ k, k < tS v → tA (v + a * 2 ^ (5 * tS v)) k = tA v k := fun k hk => by rw [tA_add h1 (by omega), if_pos hk]
  have he : tA (v + a * 2 ^ (5 * tS v)) (tS v) = a := by rw [tA_add h1 (by omega), if_neg (Nat.lt_irrefl _), if_pos rfl]
  refine ⟨tA_or h1, ⟨g1, fun k hk => ?_, by omega, fun _ => ?_, fun k hk hk2 => ?_⟩, g2, hd, he⟩
  · rw [g2] at hk
    by_cases e : k < tS v
    · rw [hd k e]; exact h2 k e
    · rw [show k = tS v by omega, he]; exact ha
  · by_cases e : 0 < tS v
    · rw [hd 0 e]; exact h4 e
    · have e0 : tS v = 0 := by omega
      have he0 : tA (v + a * 2 ^ (5 * tS v)) 0 = a := by rw [← e0]; rw [e0] at he ⊢; exact he
      rw [he0]
      intro q
      exact e (hc q).1
  · rw [g2] at hk
    rw [hd k (by omega)] at hk2
    by_cases e : k + 1 < tS v
    · rw [hd _ e]; exact h5 k e hk2
    · have e1 : k + 1 = tS v := by omega
      rw [e1, he]
      intro q
      have := (hc q).2
      rw [show tS v - 1 = k by omega] at this
      exact this hk2
theorem gQ_mod {v n : Nat} (h : gQ v) (hn : n ≤ tS v) : gQ (v % 2 ^ (5 * n)) ∧ tS (v % 2 ^ (5 * n)) = n ∧ ∀ k, k < n → tA (v % 2 ^ (5 * n)) k = tA v k := by
  obtain ⟨h1, h2, h3, h4, h5⟩ := h
  obtain ⟨g1, g2⟩ := gn_cut hn
  have hd : ∀ k, k < n → tA (v % 2 ^ (5 * n)) k = tA v k := fun k hk => tA_mod hk
  refine ⟨⟨g1, fun k hk => ?_, by omega, fun hk => ?_, fun k hk hk2 => ?_⟩, g2, hd⟩
  · rw [g2] at hk; rw [hd k hk]; exact h2 k (by omega)
  · rw [g2] at hk; rw [hd 0 hk]; exact h4 (by omega)
  · rw [g2] at hk; rw [hd k (by omega)] at hk2; rw [hd (k + 1) hk]; exact h5 k (by omega) hk2
theorem tCut_ok {q : Nat} (h : gQ q) : gn (tCut q) ∧ (tCut q = 0 ∨ gP (tCut q)) ∧ tS (tCut q) = qcN (tS q) (tF q) ∧ ∀ k, k < tS (tCut q) → tF (tCut q) k = tF q k := by
  have h0 := h
  obtain ⟨h1, h2, h3, h4, h5⟩ := h
  unfold tCut
  have hqe : qeB (tS q) (tF q) = true ↔ 0 < tS q ∧ tA q (tS q - 1) ≠ 27 := by
    unfold qeB
    rw [decide_eq_true_iff]
    constructor
    · rintro ⟨a, b⟩; exact ⟨a, fun w => b ((tF_32 h2 (by omega)).mpr w)⟩
    · rintro ⟨a, b⟩; exact ⟨a, fun w => b ((tF_32 h2 (by omega)).mp w)⟩
  by_cases c : 0 < tS q ∧ tA q (tS q - 1) = 27
  · rw [if_pos c]
    have hn : ¬ qeB (tS q) (tF q) = true := fun w => (hqe.mp w).2 c.2
    obtain ⟨g0, g2, hd⟩ := gQ_mod h0 (show tS q - 1 ≤ tS q by omega)
    obtain ⟨g1, g3, g4, g5, g6⟩ := g0
    refine ⟨g1, ?_, by rw [g2]; unfold qcN; rw [if_neg hn], fun k hk => tF_A (hd k (by omega))⟩
    by_cases e : tS q - 1 = 0
    · exact Or.inl (tS_0 g1 (by rw [g2, e]))
    · refine Or.inr ⟨g1, g3, by omega, g5 (by omega), ?_⟩
      rw [g2, hd _ (by omega)]
      intro w
      have := h5 (tS q - 1 - 1) (by omega) w
      rw [show tS q - 1 - 1 + 1 = tS q - 1 by omega] at this
      exact this c.2
  · rw [if_neg c]
    by_cases e : tS q = 0
    · have hn : ¬ qeB (tS q) (tF q) = true := fun w => by have := (hqe.mp w).1; omega
      exact ⟨h1, Or.inl (tS_0 h1 e), by unfold qcN; rw [if_neg hn]; omega, fun _ _ => rfl⟩
    · have hy : qeB (tS q) (tF q) = true := hqe.mpr ⟨by omega, fun w => c ⟨by omega, w⟩⟩
      exact ⟨h1, Or.inr ⟨h1, h2, by omega, h4 (by omega), fun w => c ⟨by omega, w⟩⟩, by unfold qcN; rw [if_pos hy], fun _ _ => rfl⟩
theorem plT_cut {q t mo : Nat} (h : gQ q) : plT t (tCut q) mo = pmO mo (tS q) (tF q) (tS t) (tF t) := by
  obtain ⟨h1, h2, h3, h4⟩ := tCut_ok h
  unfold plT pmO
  rw [← h3]
  by_cases e : tCut q = 0
  · rw [if_pos e, if_pos (by rw [e]; exact gn_0.2)]
  · rw [if_neg e, if_neg (fun w => e (tS_0 h1 w))]
    exact plc_q h4
/-- a title that is being made -/
def mdI (v k n : Nat) (b : Bool) : Prop := v < 2 ^ (5 * k) ∧ (∀ j, j < k → tA v j ≠ 0 ∧ tA v j ≤ 28) ∧ (∀ j, j + 1 < k → tA v j = 27 → tA v (j + 1) ≠ 27) ∧ (0 < k → tA v 0 ≠ 27) ∧ (b = true ↔ (k = 0 ∨ tA v (k - 1) = 27)) ∧ (0 < k → tA v (k - 1) = 27 → k < n)
theorem mdI_0 {n : Nat} : mdI 0 0 n true := ⟨by decide, fun j hj => by omega, fun j hj => by omega, fun h => by omega, ⟨fun _ => Or.inl rfl, fun _ => rfl⟩, fun h => by omega⟩
theorem mdI_s {v k n c : Nat} {b : Bool} (h : mdI v k n b) (h0 : c ≠ 0) (h28 : c ≤ 28) (hc : c = 27 → b = false ∧ k + 1 < n) : v ||| c * 2 ^ (5 * k) = v + c * 2 ^ (5 * k) ∧ mdI (v + c * 2 ^ (5 * k)) (k + 1) n (decide (c = 27)) := by
  obtain ⟨h1, h2, h3, h4, h5, h6⟩ := h
  have hd : ∀ j, j < k → tA (v + c * 2 ^ (5 * k)) j = tA v j := fun j hj => by rw [tA_add h1 (by omega), if_pos hj]
  have he : tA (v + c * 2 ^ (5 * k)) k = c := by rw [tA_add h1 (by omega), if_neg (Nat.lt_irrefl _), if_pos rfl]
  have hnb : c = 27 → ¬ (k = 0 ∨ tA v (k - 1) = 27) := fun q w => by rw [(h5.mpr w)] at hc; exact absurd (hc q).1 (by decide)
  refine ⟨tA_or h1, tA_lt2 h1 (by omega), fun j hj => ?_, fun j hj hj2 => ?_, fun _ => ?_, ?_, fun _ hk2 => ?_⟩
  · by_cases e : j < k
    · rw [hd j e]; exact h2 j e
    · rw [show j = k by omega, he]; exact ⟨h0, h28⟩
  · rw [hd j (by omega)] at hj2
    by_cases e : j + 1 < k
    · rw [hd _ e]; exact h3 j e hj2
    · rw [show j + 1 = k by omega, he]
      intro q
      exact hnb q (Or.inr (by rw [show k - 1 = j by omega]; exact hj2))
  · by_cases e : 0 < k
    · rw [hd 0 e]; exact h4 e
    · have e0 : k = 0 := by omega
      subst e0
      rw [he]
      intro q
      exact hnb q (Or.inl rfl)
  · rw [decide_eq_true_iff, show k + 1 - 1 = k by omega, he]
    exact ⟨fun q => Or.inr q, fun q => q.resolve_left (by omega)⟩
  · rw [show k + 1 - 1 = k by omega, he] at hk2
    exact (hc hk2).2
theorem mdI_T {v n : Nat} {b : Bool} (h : mdI v n n b) (h1 : 1 ≤ n) (h9 : n ≤ 9) : gT v := by
  obtain ⟨g1, g2, g3, g4, g5, g6⟩ := h
  obtain ⟨i1, i2⟩ := gn_of (t := v) (n := n) (by omega) g1 (fun k hk => (g2 k hk).1)
  have hch : ch28 v := fun k hk => by rw [i2] at hk; exact (g2 k hk).2
  have h32 : ∀ k, k < n → (tF v k = nI 32 ↔ tA v k = 27) := fun k hk => tF_32 hch (by omega)
  refine ⟨i1, hch, by omega, ?_⟩
  rw [i2]
  refine ⟨h1, by omega, fun q => g4 (by omega) ((h32 0 (by omega)).mp q), fun q => ?_, fun k hk q w => ?_, fun k hk => ?_⟩
  · have := g6 (by omega) ((h32 (n - 1) (by omega)).mp q)
    omega
  · exact g3 k hk ((h32 k (by omega)).mp q) ((h32 (k + 1) hk).mp w)
  · have hk2 := g2 k hk
    show okC (nI (tC (tA v k)))
    unfold okC tC
    by_cases e : tA v k = 27
    · rw [if_pos e]; exact Or.inl rfl
    · rw [if_neg e]
      by_cases e2 : tA v k = 28
      · rw [if_pos e2]; exact Or.inr (Or.inr ⟨by decide, by decide⟩)
      · rw [if_neg e2]
        exact Or.inr (Or.inl ⟨nI_le (by omega) (by omega), nI_le (by omega) (by omega)⟩)
