/-! what pieces are cut from, pieces, their places: as the law counts them -/
/-- whether a word begins at k -/
def tW (t k : Nat) : Bool := decide (tA t k ≠ 27 ∧ (k = 0 ∨ tA t (k - 1) = 27))
def tJ (t : Nat) : Nat → Nat × Nat
  | 0 => (0, 0)
  | k + 1 => if tW t k = true then ((tJ t k).1 ||| tA t k * 2 ^ (5 * (tJ t k).2), (tJ t k).2 + 1) else tJ t k
def tFr (t mo : Nat) : Nat := if mo < 3 then t else (tJ t (tS t)).1
theorem tJ_le {t : Nat} : ∀ k, (tJ t k).2 ≤ k := by
  intro k
  induction k with
  | zero => exact Nat.le_refl _
  | succ k ih =>
    rw [tJ]
    split
    · exact Nat.succ_le_succ ih
    · omega
theorem tJ_lt {t : Nat} : ∀ k, (tJ t k).1 < 2 ^ (5 * (tJ t k).2) := by
  intro k
  induction k with
  | zero => show 0 < 2 ^ (5 * 0); decide
  | succ k ih =>
    rw [tJ]
    split
    · show (tJ t k).1 ||| tA t k * 2 ^ (5 * (tJ t k).2) < _
      rw [tA_or ih]
      exact tA_lt2 ih tA_lt
    · exact ih
theorem tW_ws {t k : Nat} (hg : gT t) (hk : k < tS t) : tW t k = wsB (tF t) k := by
  unfold tW wsB
  refine decide_eq_decide.mpr ?_
  by_cases e : k = 0
  · subst e
    refine ⟨fun _ => Or.inl rfl, fun _ => ⟨fun q => ?_, Or.inl rfl⟩⟩
    exact hg.V.2.2.1 ((tF_32 hg.c hk).mpr q)
  · have h1 : tF t (k - 1) = nI 32 ↔ tA t (k - 1) = 27 := tF_32 hg.c (by omega)
    constructor
    · rintro ⟨h2, h3⟩
      exact Or.inr (h1.mpr (h3.resolve_left e))
    · intro h3
      have h3 := h3.resolve_left e
      refine ⟨fun q => ?_, Or.inr (h1.mp h3)⟩
      have h4 := hg.V.2.2.2.2.1 (k - 1) (by omega) h3
      rw [show k - 1 + 1 = k by omega] at h4
      exact h4 ((tF_32 hg.c hk).mpr q)
/-- the initials' number: how many, which -/
theorem tJ_ini {t : Nat} (hg : gT t) : ∀ k, k ≤ tS t → (tJ t k).2 = wsN (tF t) k ∧ (∀ j, j < k → wsB (tF t) j = true → tA (tJ t k).1 (wsN (tF t) j) = tA t j) := by
  intro k
  induction k with
  | zero => intro _; exact ⟨rfl, fun j hj => absurd hj (Nat.not_lt_zero _)⟩
  | succ k ih =>
    intro hk
    obtain ⟨h1, h2⟩ := ih (by omega)
    rw [tJ, wsN, tW_ws hg (by omega)]
    by_cases w : wsB (tF t) k = true
    · rw [if_pos w, if_pos w]
      refine ⟨by show _ + 1 = _; rw [h1], fun j hj hw => ?_⟩
      show tA ((tJ t k).1 ||| tA t k * 2 ^ (5 * (tJ t k).2)) _ = _
      rw [tA_or (tJ_lt k), tA_add (tJ_lt k) tA_lt, h1]
      by_cases e : j = k
      · rw [e, if_neg (Nat.lt_irrefl _), if_pos rfl]
      · have := wsN_lt (show j < k by omega) hw
        rw [if_pos this]
        exact h2 j (by omega) hw
    · rw [if_neg w, if_neg w]
      refine ⟨h1, fun j hj hw => ?_⟩
      by_cases e : j = k
      · rw [e] at hw; exact absurd hw w
      · exact h2 j (by omega) hw
theorem tJ_n {t : Nat} (hg : gT t) : (tJ t (tS t)).2 = 1 + cnB (tF t) (tS t) := by rw [(tJ_ini hg _ (Nat.le_refl _)).1, hg.V.im]
theorem tJ_dig {t k : Nat} (hg : gT t) (hk : k < wsN (tF t) (tS t)) : ∃ j, j < tS t ∧ tA (tJ t (tS t)).1 k = tA t j ∧ tA t j ≠ 27 ∧ iniF (tF t) (tS t) k = tF t j := by
  obtain ⟨j, h1, h2, h3⟩ := wsN_hit _ k hk
  refine ⟨j, h1, ?_, ?_, ?_⟩
  · rw [← h3]; exact (tJ_ini hg _ (Nat.le_refl _)).2 j h1 h2
  · rw [← tW_ws hg h1] at h2
    unfold tW at h2
    exact (of_decide_eq_true h2).1
  · rw [← h3]; exact iniF_at h1 h2
theorem tFr_lt {t mo : Nat} (hg : gn t) : tFr t mo < 2 ^ 60 := by
  unfold tFr
  split
  · exact hg.lt
  · refine Nat.lt_of_lt_of_le (tJ_lt _) (Nat.pow_le_pow_right (by decide) ?_)
    have h1 := tJ_le (t := t) (tS t)
    have h2 := tS_le (t := t)
    omega
theorem tFr_ok {t mo : Nat} (hg : gT t) (hm : mo < 4) : gn (tFr t mo) ∧ tS (tFr t mo) = srN mo (tS t) (tF t) ∧ (∀ k, k < tS (tFr t mo) → tF (tFr t mo) k = srG mo (tS t) (tF t) k ∧ tA (tFr t mo) k ≤ 28 ∧ tA (tFr t mo) k ≠ 0) ∧ (mo = 3 → ∀ k, k < tS (tFr t mo) → tA (tFr t mo) k ≠ 27) := by
  by_cases h3 : mo = 3
  · subst h3
    have e : tFr t 3 = (tJ t (tS t)).1 := rfl
    have h1 := tJ_lt (t := t) (tS t)
    have h2 := tJ_le (t := t) (tS t)
    have h12 := tS_le (t := t)
    have hn := tJ_n hg
    have hw : wsN (tF t) (tS t) = (tJ t (tS t)).2 := (tJ_ini hg _ (Nat.le_refl _)).1.symm
    rw [e]
    obtain ⟨g1, g2⟩ := gn_of (t := (tJ t (tS t)).1) (n := (tJ t (tS t)).2) (by omega) h1 (fun k hk => by
      obtain ⟨j, i1, i2, i3, i4⟩ := tJ_dig hg (k := k) (by omega)
      rw [i2]; exact tS_at i1)
    refine ⟨g1, ?_, fun k hk => ?_, fun _ k hk => ?_⟩
    · rw [g2, hn, srN_3 hg.V, hg.V.im]
    · obtain ⟨j, i1, i2, i3, i4⟩ := tJ_dig hg (k := k) (by omega)
      rw [srG_3, i4]
      exact ⟨tF_A i2, by rw [i2]; exact hg.c j i1, by rw [i2]; exact tS_at i1⟩
    · obtain ⟨j, i1, i2, i3, i4⟩ := tJ_dig hg (k := k) (by omega)
      rw [i2]; exact i3
  · have e : tFr t mo = t := by unfold tFr; rw [if_pos (by omega)]
    rw [e]
    exact ⟨hg.g, (srN_o h3).symm, fun k hk => ⟨by rw [srG_o h3], hg.c k hk, tS_at hk⟩, fun q => absurd q h3⟩
/-- a run, if it is a piece -/
def tPc (f s l mo : Nat) : Prop := s + l ≤ tS f ∧ tA f s ≠ 27 ∧ tA f (s + l - 1) ≠ 27 ∧ ¬ (mo = 1 ∧ 0 < s) ∧ ¬ (mo = 2 ∧ 0 < s ∧ tA f (s - 1) ≠ 27)
def tP (f s l mo : Nat) : Nat := if s + l ≤ tS f ∧ tA f s ≠ 27 ∧ tA f (s + l - 1) ≠ 27 ∧ ¬ (mo = 1 ∧ 0 < s) ∧ ¬ (mo = 2 ∧ 0 < s ∧ tA f (s - 1) ≠ 27) then f / 2 ^ (5 * s) % 2 ^ (5 * l) else 0
theorem tP_y {f s l mo : Nat} (h : tPc f s l mo) : tP f s l mo = f / 2 ^ (5 * s) % 2 ^ (5 * l) := by unfold tP; exact if_pos h
theorem tP_n {f s l mo : Nat} (h : ¬ tPc f s l mo) : tP f s l mo = 0 := by unfold tP; exact if_neg h
theorem tP_ok {f s l mo : Nat} (h : tPc f s l mo) : gn (tP f s l mo) ∧ tS (tP f s l mo) = l ∧ ∀ k, k < l → tA (tP f s l mo) k = tA f (s + k) := by
  have hd : ∀ k, k < l → tA (tP f s l mo) k = tA f (s + k) := fun k hk => by rw [tP_y h, tA_mod hk, tA_div]
  have h12 := tS_le (t := f)
  have h1 := h.1
  obtain ⟨g1, g2⟩ := gn_of (t := tP f s l mo) (n := l) (by omega) (by rw [tP_y h]; exact Nat.mod_lt _ (Nat.two_pow_pos _)) (fun k hk => by rw [hd k hk]; exact tS_at (by omega))
  exact ⟨g1, g2, hd⟩
/-- what may be looked for -/
def gP (p : Nat) : Prop := gn p ∧ ch28 p ∧ 0 < tS p ∧ tA p 0 ≠ 27 ∧ tA p (tS p - 1) ≠ 27
theorem gP.pos {p : Nat} (h : gP p) : p ≠ 0 := by
  rintro rfl
  have := h.2.2.1
  rw [gn_0.2] at this
  omega
/-- a place of a piece -/
theorem tP_mt {t p s mo : Nat} (hg : gT t) (hm : mo < 4) (hp : gP p) : tP (tFr t mo) s (tS p) mo = p ↔ mtP mo (tS t) (1 + cnB (tF t) (tS t)) (tF t) (iniF (tF t) (tS t)) (tF p) (tS p) s = true := by
  obtain ⟨f1, f2, f3, f4⟩ := tFr_ok hg hm
  obtain ⟨p1, p2, p3, p4, p5⟩ := hp
  have hpp : gP p := ⟨p1, p2, p3, p4, p5⟩
  have hN : rN mo (tS t) (1 + cnB (tF t) (tS t)) = tS (tFr t mo) := f2.symm
  have hGG : ∀ k, rG mo (tF t) (iniF (tF t) (tS t)) k = srG mo (tS t) (tF t) k := fun k => rfl
  unfold mtP mtB
  rw [hN]
  simp only [Bool.and_eq_true, decide_eq_true_eq]
  -- the same characters
  have hch : s + tS p ≤ tS (tFr t mo) → ((∀ k, k < tS p → tF p k = rG mo (tF t) (iniF (tF t) (tS t)) (s + k)) ↔ ∀ k, k < tS p → tA (tFr t mo) (s + k) = tA p k) := by
    intro hle
    have hch2 : ch28 (tFr t mo) := fun k hk => (f3 k hk).2.1
    constructor
    · intro h k hk
      have := h k hk
      rw [hGG, ← (f3 (s + k) (by omega)).1] at this
      exact ((tF_eq p2 hch2 hk (by omega)).mp this).symm
    · intro h k hk
      rw [hGG, ← (f3 (s + k) (by omega)).1]
      exact tF_A (h k hk).symm
  have hsp : s + tS p ≤ tS (tFr t mo) → tA (tFr t mo) s ≠ 27 → ((¬ (mo = 1 ∧ 0 < s) ∧ ¬ (mo = 2 ∧ 0 < s ∧ tA (tFr t mo) (s - 1) ≠ 27)) ↔ spB mo (tS t) (1 + cnB (tF t) (tS t)) (tF t) s = true) := by
    intro hle hns
    by_cases h3 : mo = 3
    · subst h3
      rw [spB_3 (by rw [show rN 3 (tS t) (1 + cnB (tF t) (tS t)) = 1 + cnB (tF t) (tS t) from rfl] at hN; omega)]
      exact ⟨fun _ => rfl, fun _ => ⟨fun q => by omega, fun q => by omega⟩⟩
    · have e : tFr t mo = t := by unfold tFr; rw [if_pos (by omega)]
      rw [e] at hle hns ⊢
      have hs : s < tS t := by omega
      have h12 : mo = 0 ∨ mo = 1 ∨ mo = 2 := by omega
      rcases h12 with rfl | rfl | rfl
      · rw [spB_0 hs, decide_eq_true_eq]
        exact ⟨fun _ q => hns ((tF_32 hg.c hs).mp q), fun _ => ⟨fun q => by omega, fun q => by omega⟩⟩
      · rw [spB_1 hs, decide_eq_true_eq]
        exact ⟨fun q => by have := q.1; omega, fun q => ⟨fun w => by omega, fun w => by omega⟩⟩
      · rw [spB_2 hs]
        unfold wsB
        rw [decide_eq_true_eq]
        constructor
        · intro q
          by_cases e0 : s = 0
          · exact Or.inl e0
          · refine Or.inr ((tF_32 hg.c (by omega)).mpr ?_)
            have := q.2
            by_cases w : tA t (s - 1) = 27
            · exact w
            · exact absurd ⟨rfl, by omega, w⟩ this
        · intro q
          refine ⟨fun w => by omega, fun w => ?_⟩
          rcases q with q | q
          · omega
          · exact w.2.2 ((tF_32 hg.c (by omega)).mp q)
  constructor
  · intro h
    have hc : tPc (tFr t mo) s (tS p) mo := by
      by_cases w : tPc (tFr t mo) s (tS p) mo
      · exact w
      · rw [tP_n w] at h
        exact absurd h.symm hpp.pos
    obtain ⟨o1, o2, o3⟩ := tP_ok hc
    rw [h] at o3
    exact ⟨⟨(hsp hc.1 hc.2.1).mp hc.2.2.2, (hch hc.1).mpr (fun k hk => (o3 k hk).symm)⟩, hc.1⟩
  · rintro ⟨⟨h1, h2⟩, h3⟩
    have h4 := (hch h3).mp h2
    have hns : tA (tFr t mo) s ≠ 27 := by
      have := h4 0 p3
      rw [Nat.add_zero] at this
      rw [this]; exact p4
    have hne : tA (tFr t mo) (s + tS p - 1) ≠ 27 := by
      have := h4 (tS p - 1) (by omega)
      rw [show s + (tS p - 1) = s + tS p - 1 by omega] at this
      rw [this]; exact p5
    have hc : tPc (tFr t mo) s (tS p) mo := ⟨h3, hns, hne, (hsp h3 hns).mpr h1⟩
    obtain ⟨o1, o2, o3⟩ := tP_ok hc
    exact gn_ext o1 p1 o2 (fun k hk => by rw [o2] at hk; rw [o3 k hk, h4 k hk])
/-- the place of a piece, in the class's words; the empty one's is 0 -/
def plT (t p mo : Nat) : Option Nat := if p = 0 then some 0 else plc mo (tS t) (1 + cnB (tF t) (tS t)) (tF t) (iniF (tF t) (tS t)) (tF p) (tS p)
theorem plT_p {t p mo : Nat} (h : p ≠ 0) : plT t p mo = plc mo (tS t) (1 + cnB (tF t) (tS t)) (tF t) (iniF (tF t) (tS t)) (tF p) (tS p) := if_neg h
theorem plT_0 {t mo : Nat} : plT t 0 mo = some 0 := if_pos rfl
theorem plT_hit {t p s mo : Nat} (hg : gT t) (hm : mo < 4) (hp : gP p) (h : tP (tFr t mo) s (tS p) mo = p) (h2 : ∀ y, y < s → tP (tFr t mo) y (tS p) mo ≠ p) : plT t p mo = some s := by
  rw [plT_p hp.pos]
  refine plc_yes ((tP_mt hg hm hp).mp h) (fun y hy => ?_)
  cases e : mtP mo (tS t) (1 + cnB (tF t) (tS t)) (tF t) (iniF (tF t) (tS t)) (tF p) (tS p) y with
  | false => rfl
  | true => exact absurd ((tP_mt hg hm hp).mpr e) (h2 y hy)
theorem plT_miss {t p mo : Nat} (hg : gT t) (hm : mo < 4) (hp : gP p) (h2 : ∀ y, y < tS (tFr t mo) → tP (tFr t mo) y (tS p) mo ≠ p) : plT t p mo = none := by
  rw [plT_p hp.pos]
  refine plc_no (fun y hy => ?_) hp.2.2.1
  cases e : mtP mo (tS t) (1 + cnB (tF t) (tS t)) (tF t) (iniF (tF t) (tS t)) (tF p) (tS p) y with
  | false => rfl
  | true =>
    have hN : rN mo (tS t) (1 + cnB (tF t) (tS t)) = tS (tFr t mo) := (tFr_ok hg hm).2.1.symm
    rw [hN] at hy
    exact absurd ((tP_mt hg hm hp).mpr e) (h2 y hy)
theorem plT_26 {t p mo j : Nat} (hg : gT t) (h : plT t p mo = some j) : j < 26 := by
  unfold plT at h
  split at h
  · cases h; omega
  · exact plc_26 hg.V j h
/-- pieces of a title: in the class's words -/
theorem tP_pc {t s l mo : Nat} (hg : gT t) (hm : mo < 4) (hl : 0 < l) : tPc (tFr t mo) s l mo ↔ pcB mo (tS t) (tF t) s l = true := by
  obtain ⟨f1, f2, f3, f4⟩ := tFr_ok hg hm
  by_cases hle : s + l ≤ tS (tFr t mo)
  · have hch2 : ch28 (tFr t mo) := fun k hk => (f3 k hk).2.1
    rw [pcB_iff hl (by rw [← f2]; exact hle)]
    simp only [Bool.and_eq_true, decide_eq_true_eq]
    have h1 : tA (tFr t mo) (s + l - 1) ≠ 27 ↔ srG mo (tS t) (tF t) (s + l - 1) ≠ nI 32 := by
      rw [← (f3 (s + l - 1) (by omega)).1]
      exact not_congr (tF_32 hch2 (by omega)).symm
    unfold tPc
    rw [h1]
    by_cases h3 : mo = 3
    · subst h3
      rw [spB_3 (by have hN : rN 3 (tS t) (1 + cnB (tF t) (tS t)) = tS (tFr t 3) := f2.symm
                    rw [show rN 3 (tS t) (1 + cnB (tF t) (tS t)) = 1 + cnB (tF t) (tS t) from rfl] at hN; omega)]
      exact ⟨fun q => ⟨rfl, q.2.2.1⟩, fun q => ⟨hle, f4 rfl s (by omega), q.2, fun w => by omega, fun w => by omega⟩⟩
    · have e : tFr t mo = t := by unfold tFr; rw [if_pos (by omega)]
      rw [e] at hle hch2 ⊢
      have hs : s < tS t := by omega
      have hV := hg.V
      have hws : wsB (tF t) s = true ↔ tA t s ≠ 27 ∧ (s = 0 ∨ tA t (s - 1) = 27) := by
        rw [← tW_ws hg hs]; unfold tW; exact decide_eq_true_iff
      have h12 : mo = 0 ∨ mo = 1 ∨ mo = 2 := by omega
      rcases h12 with rfl | rfl | rfl
      · rw [spB_0 hs, decide_eq_true_eq]
        have := tF_32 hg.c hs
        exact ⟨fun q => ⟨fun w => q.2.1 (this.mp w), q.2.2.1⟩, fun q => ⟨hle, fun w => q.1 (this.mpr w), q.2, fun w => by omega, fun w => by omega⟩⟩
      · rw [spB_1 hs, decide_eq_true_eq]
        refine ⟨fun q => ⟨by have := q.2.2.2.1; omega, q.2.2.1⟩, fun q => ⟨hle, fun w => ?_, q.2, fun w => by omega, fun w => by omega⟩⟩
        rw [q.1] at w
        exact hV.2.2.1 ((tF_32 hg.c (by omega)).mpr w)
      · rw [spB_2 hs, hws]
        constructor
        · intro q
          refine ⟨⟨q.2.1, ?_⟩, q.2.2.1⟩
          by_cases e0 : s = 0
          · exact Or.inl e0
          · by_cases w : tA t (s - 1) = 27
            · exact Or.inr w
            · exact absurd ⟨rfl, by omega, w⟩ q.2.2.2.2
        · intro q
          refine ⟨hle, q.1.1, q.2, fun w => by omega, fun w => ?_⟩
          rcases q.1.2 with g | g
          · omega
          · exact w.2.2 g
  · rw [pcB_no (by rw [← f2]; exact hle)]
    exact ⟨fun q => absurd q.1 hle, fun q => by cases q⟩
theorem tP_gP {t s l mo : Nat} (hg : gT t) (hm : mo < 4) (hl : 0 < l) (h : tPc (tFr t mo) s l mo) : gP (tP (tFr t mo) s l mo) ∧ tS (tP (tFr t mo) s l mo) = l ∧ ∀ k, k < l → tF (tP (tFr t mo) s l mo) k = srG mo (tS t) (tF t) (s + k) := by
  obtain ⟨f1, f2, f3, f4⟩ := tFr_ok hg hm
  obtain ⟨o1, o2, o3⟩ := tP_ok h
  have hle := h.1
  refine ⟨⟨o1, fun k hk => ?_, by omega, ?_, ?_⟩, o2, fun k hk => ?_⟩
  · rw [o2] at hk
    rw [o3 k hk]
    exact (f3 (s + k) (by omega)).2.1
  · rw [o3 0 hl]; exact h.2.1
  · rw [o2, o3 (l - 1) (by omega), show s + (l - 1) = s + l - 1 by omega]; exact h.2.2.1
  · rw [← (f3 (s + k) (by omega)).1]
    exact tF_A (o3 k hk)
theorem tP_0 {f s l mo : Nat} (hl : 0 < l) : tP f s l mo = 0 ↔ ¬ tPc f s l mo := by
  constructor
  · intro h w
    obtain ⟨o1, o2, o3⟩ := tP_ok w
    rw [h, gn_0.2] at o2
    omega
  · exact tP_n
/-- where a piece of one is in another -/
theorem plT_pl2 {mo t s l u : Nat} {al : Nat → Nat} (hg : gT (al t)) (hm : mo < 4) (hl : 0 < l) (h : tPc (tFr (al t) mo) s l mo) : plT (al u) (tP (tFr (al t) mo) s l mo) mo = pl2 mo (fun i => tS (al i)) (fun i => tF (al i)) t s l u := by
  obtain ⟨g1, g2, g3⟩ := tP_gP hg hm hl h
  rw [plT_p g1.pos, g2]
  exact plc_q g3
