/-! the class's words look at characters below a title's length alone -/
def agF (n : Nat) (f f' : Nat → Int32) : Prop := ∀ k, k < n → f k = f' k
theorem wsB_c {n j : Nat} {f f' : Nat → Int32} (h : agF n f f') (hj : j ≤ n) : wsB f j = wsB f' j := by
  unfold wsB
  refine decide_eq_decide.mpr ?_
  by_cases e : j = 0
  · exact ⟨fun _ => Or.inl e, fun _ => Or.inl e⟩
  · rw [h (j - 1) (by omega)]
theorem wsN_c {n : Nat} {f f' : Nat → Int32} (h : agF n f f') : ∀ k, k ≤ n → wsN f k = wsN f' k := by
  intro k
  induction k with
  | zero => intro _; rfl
  | succ k ih => intro hk; rw [wsN, wsN, ih (by omega), wsB_c h (by omega)]
theorem cnB_c {n : Nat} {f f' : Nat → Int32} (h : agF n f f') : ∀ k, k ≤ n → cnB f k = cnB f' k := by
  intro k
  induction k with
  | zero => intro _; rfl
  | succ k ih => intro hk; rw [cnB, cnB, ih (by omega), h k (by omega)]
theorem iniF_c {n k : Nat} {f f' : Nat → Int32} (h : agF n f f') : iniF f n k = iniF f' n k := by
  unfold iniF
  have e : fnd (fun j => wsB f j && decide (wsN f j = k)) 0 n = fnd (fun j => wsB f' j && decide (wsN f' j = k)) 0 n := fnd_cong n 0 (fun x _ hx => by simp only [wsB_c h (show x ≤ n by omega), wsN_c h x (by omega)])
  rw [e]
  cases q : fnd (fun j => wsB f' j && decide (wsN f' j = k)) 0 n with
  | none => rfl
  | some j => have := (fnd_some _ _ _).mp q; exact h j (by omega)
theorem spB_c {mo n m p : Nat} {f f' : Nat → Int32} (h : agF n f f') : spB mo n m f p = spB mo n m f' p := by
  unfold spB
  by_cases e : p < n
  · rw [h p e]
    by_cases e0 : p = 0
    · subst e0; simp
    · rw [h (p - 1) (by omega)]
  · simp [e]
theorem rG_c {mo n k : Nat} {f f' : Nat → Int32} (h : agF n f f') (hk : k < rN mo n (1 + cnB f n)) : rG mo f (iniF f n) k = rG mo f' (iniF f' n) k := by
  unfold rG
  by_cases e : mo = 3
  · rw [if_pos e, if_pos e]; exact iniF_c h
  · rw [if_neg e, if_neg e]
    unfold rN at hk
    rw [if_neg e] at hk
    exact h k hk
theorem plc_c {mo n len : Nat} {f f' q : Nat → Int32} (h : agF n f f') : plc mo n (1 + cnB f n) f (iniF f n) q len = plc mo n (1 + cnB f' n) f' (iniF f' n) q len := by
  unfold plc
  rw [← cnB_c h n (Nat.le_refl _)]
  refine fnd_cong _ _ (fun p _ hp => ?_)
  have e1 : spB mo n (1 + cnB f n) f p = spB mo n (1 + cnB f n) f' p := spB_c h
  have e2 : mtB q (rG mo f (iniF f n)) len p = mtB q (rG mo f' (iniF f' n)) len p := mtB_cong (N := rN mo n (1 + cnB f n)) (fun k hk => rG_c h hk) (by omega)
  simp only [e1, e2]
theorem srN_c {mo n : Nat} {f f' : Nat → Int32} (h : agF n f f') : srN mo n f = srN mo n f' := by
  unfold srN
  rw [cnB_c h n (Nat.le_refl _)]
theorem pcB_c {mo n s l : Nat} {f f' : Nat → Int32} (h : agF n f f') : pcB mo n f s l = pcB mo n f' s l := by
  by_cases hl : 0 < l
  · by_cases hs : s + l ≤ srN mo n f
    · rw [pcB_iff hl hs, pcB_iff hl (by rw [← srN_c h]; exact hs), ← cnB_c h n (Nat.le_refl _), spB_c h]
      have : srG mo n f (s + l - 1) = srG mo n f' (s + l - 1) := rG_c h (by unfold srN at hs; omega)
      rw [this]
    · rw [pcB_no hs, pcB_no (by rw [← srN_c h]; exact hs)]
  · unfold pcB
    rw [decide_eq_false (fun q => hl q.1), decide_eq_false (fun q => hl q.1), Bool.and_false, Bool.and_false]
def agT (T : Nat) (ln ln' : Nat → Nat) (fl fl' : Nat → Nat → Int32) : Prop := ∀ t, t < T → ln t = ln' t ∧ agF (ln t) (fl t) (fl' t)
theorem agT.mono {T T' : Nat} {ln ln' : Nat → Nat} {fl fl' : Nat → Nat → Int32} (h : agT T ln ln' fl fl') (hT : T' ≤ T) : agT T' ln ln' fl fl' := fun t ht => h t (by omega)
theorem pl2_c {T mo t s l u : Nat} {ln ln' : Nat → Nat} {fl fl' : Nat → Nat → Int32} (h : agT T ln ln' fl fl') (ht : t < T) (hu : u < T) (hs : s + l ≤ srN mo (ln t) (fl t)) : pl2 mo ln fl t s l u = pl2 mo ln' fl' t s l u := by
  unfold pl2
  rw [← (h u hu).1, ← (h t ht).1, plc_c (h u hu).2]
  exact plc_q (fun x hx => rG_c (h t ht).2 (by unfold srN at hs; omega))
theorem aloB_c {T mo t s l : Nat} {ln ln' : Nat → Nat} {fl fl' : Nat → Nat → Int32} (h : agT T ln ln' fl fl') (ht : t < T) (hs : s + l ≤ srN mo (ln t) (fl t)) : aloB T mo ln fl t s l = aloB T mo ln' fl' t s l := by
  unfold aloB
  exact decide_eq_decide.mpr ⟨fun g u hu hn => by rw [← pl2_c h ht hu hs]; exact g u hu hn, fun g u hu hn => by rw [pl2_c h ht hu hs]; exact g u hu hn⟩
theorem pKb_cc {T mo t : Nat} {ln ln' : Nat → Nat} {fl fl' : Nat → Nat → Int32} (h : agT T ln ln' fl fl') (ht : t < T) : pKb T mo ln fl t = pKb T mo ln' fl' t := by
  funext s l
  unfold pKb
  have e : pcB mo (ln t) (fl t) s l = pcB mo (ln' t) (fl' t) s l := by rw [← (h t ht).1]; exact pcB_c (h t ht).2
  rw [← e]
  cases q : pcB mo (ln t) (fl t) s l with
  | false => rfl
  | true => rw [aloB_c h ht (pcB_of q).2]
theorem kyN_c {T mo t : Nat} {ln ln' : Nat → Nat} {fl fl' : Nat → Nat → Int32} (h : agT T ln ln' fl fl') (ht : t < T) : kyN T mo ln fl t = kyN T mo ln' fl' t := by
  unfold kyN
  rw [pKb_cc h ht]
theorem nb_c {f f' g g' : Nat → Int32} {n m : Nat} (hf : agF n f f') (hg : agF m g g') : ∀ (fu k : Nat), nb f g n m k fu = nb f' g' n m k fu := by
  intro fu
  induction fu with
  | zero => intro k; rfl
  | succ fu ih =>
    intro k
    rw [nb, nb]
    by_cases e : k < n ∧ k < m
    · rw [if_pos e, if_pos e, hf k e.1, hg k e.2, ih]
    · rw [if_neg e, if_neg e]
def agU (T : Nat) (us us' : Nat → Int32) : Prop := ∀ t, t < T → us t = us' t
theorem cbB_c {T od i pi j pj : Nat} {ln ln' : Nat → Nat} {fl fl' : Nat → Nat → Int32} {us us' : Nat → Int32} (h : agT T ln ln' fl fl') (hu : agU T us us') (hi : i < T) (hj : j < T) : cbB od i pi j pj ln fl us = cbB od i pi j pj ln' fl' us' := by
  unfold cbB
  rw [← (h i hi).1, ← (h j hj).1, hu i hi, hu j hj, nb_c (h i hi).2 (h j hj).2]
theorem firB_c {T mo od t s l : Nat} {ln ln' : Nat → Nat} {fl fl' : Nat → Nat → Int32} {us us' : Nat → Int32} (h : agT T ln ln' fl fl') (hU : agU T us us') (ht : t < T) (hs : s + l ≤ srN mo (ln t) (fl t)) : firB T mo od ln fl us t s l = firB T mo od ln' fl' us' t s l := by
  unfold firB
  rw [pl2_c h ht ht hs]
  exact decide_eq_decide.mpr ⟨fun g u hu hn p hp => by rw [← cbB_c h hU hu ht]; exact g u hu hn p (by rw [pl2_c h ht hu hs]; exact hp), fun g u hu hn p hp => by rw [cbB_c h hU hu ht]; exact g u hu hn p (by rw [← pl2_c h ht hu hs]; exact hp)⟩
theorem pSb_cc {T mo od t : Nat} {ln ln' : Nat → Nat} {fl fl' : Nat → Nat → Int32} {us us' : Nat → Int32} (h : agT T ln ln' fl fl') (hU : agU T us us') (ht : t < T) : pSb T mo od ln fl us t = pSb T mo od ln' fl' us' t := by
  funext s l
  unfold pSb
  have e : pcB mo (ln t) (fl t) s l = pcB mo (ln' t) (fl' t) s l := by rw [← (h t ht).1]; exact pcB_c (h t ht).2
  rw [← e]
  cases q : pcB mo (ln t) (fl t) s l with
  | false => rfl
  | true => rw [firB_c h hU ht (pcB_of q).2]
theorem shN_c {T mo od t : Nat} {ln ln' : Nat → Nat} {fl fl' : Nat → Nat → Int32} {us us' : Nat → Int32} (h : agT T ln ln' fl fl') (hU : agU T us us') (ht : t < T) : shN T mo od ln fl us t = shN T mo od ln' fl' us' t := by
  unfold shN
  rw [pSb_cc h hU ht]
theorem pmO_c {T mo ql t : Nat} {q q' : Nat → Int32} {ln ln' : Nat → Nat} {fl fl' : Nat → Nat → Int32} (h : agT T ln ln' fl fl') (hq : agF ql q q') (ht : t < T) : pmO mo ql q (ln t) (fl t) = pmO mo ql q' (ln' t) (fl' t) := by
  rw [pmO_q hq, ← (h t ht).1]
  unfold pmO
  rw [plc_c (h t ht).2]
theorem plN_c {T mo ql t : Nat} {q q' : Nat → Int32} {ln ln' : Nat → Nat} {fl fl' : Nat → Nat → Int32} (h : agT T ln ln' fl fl') (hq : agF ql q q') (ht : t < T) : plN mo ql q ln fl t = plN mo ql q' ln' fl' t := by
  unfold plN
  rw [pmO_c h hq ht]
theorem insK_c {B B' : Nat → Bool} {r : Nat → Nat} : ∀ k, (∀ j, j < k → B (r j) = B' (r j)) → insK B r k = insK B' r k := by
  intro k
  induction k with
  | zero => intro _; rfl
  | succ k ih => intro h; rw [insK, insK, h k (Nat.lt_succ_self _), ih (fun j hj => h j (by omega))]
theorem rkS_c {B B' : Nat → Nat → Bool} {pm pm' : Nat → Option Nat} : ∀ t, (∀ x, x < t → pm x = pm' x) → (∀ x y, x < t → y < t → B x y = B' x y) → rkS B pm t = rkS B' pm' t := by
  intro t
  induction t with
  | zero => intro _ _; rfl
  | succ t ih =>
    intro h1 h2
    have e := ih (fun x hx => h1 x (by omega)) (fun x y hx hy => h2 x y (by omega) (by omega))
    have hin := (rkS_in (B := B') (pm := pm') t).2
    rw [rkS, rkS, e, h1 t (Nat.lt_succ_self _), insK_c (B := B t) (B' := B' t) _ (fun j hj => h2 t _ (Nat.lt_succ_self _) (Nat.lt_succ_of_lt (hin j hj).1))]
theorem rkN_c {T mo od ql : Nat} {q q' : Nat → Int32} {ln ln' : Nat → Nat} {fl fl' : Nat → Nat → Int32} {us us' : Nat → Int32} (h : agT T ln ln' fl fl') (hU : agU T us us') (hq : agF ql q q') : rkN T mo od ql q ln fl us T = rkN T mo od ql q' ln' fl' us' T := by
  unfold rkN
  refine rkS_c T (fun x hx => pmO_c h hq hx) (fun x y hx hy => ?_)
  show cbB od x _ y _ ln fl us = cbB od x _ y _ ln' fl' us'
  rw [pmO_c h hq hx, pmO_c h hq hy, cbB_c h hU hx hy]
theorem sl_c {f f' g g' : Nat → Int32} {n m : Nat} (hf : agF n f f') (hg : agF m g g') : ∀ (k i j : Nat), sl f g n m i j k = sl f' g' n m i j k := by
  intro k
  induction k with
  | zero => intro i j; rfl
  | succ k ih =>
    intro i j
    rw [sl, sl]
    by_cases e : i < n ∧ j < m
    · rw [hf i e.1, hg j e.2, ih]
    · rw [if_neg (fun w => e ⟨w.1, w.2.1⟩), if_neg (fun w => e ⟨w.1, w.2.1⟩)]
theorem cmJ_c {f f' g g' : Nat → Int32} {n m i : Nat} (hf : agF n f f') (hg : agF m g g') : ∀ j, cmJ f g n m i j = cmJ f' g' n m i j := by
  intro j
  induction j with
  | zero => rfl
  | succ j ih => rw [cmJ, cmJ, ih, sl_c hf hg]
theorem cmI_c {f f' g g' : Nat → Int32} {n m : Nat} (hf : agF n f f') (hg : agF m g g') : ∀ i, cmI f g n m i = cmI f' g' n m i := by
  intro i
  induction i with
  | zero => rfl
  | succ i ih => rw [cmI, cmI, ih, cmJ_c hf hg]
theorem cm2_c {T a b : Nat} {ln ln' : Nat → Nat} {fl fl' : Nat → Nat → Int32} (h : agT T ln ln' fl fl') (ha : a < T) (hb : b < T) : cmI (fl a) (fl b) (ln a) (ln b) (ln a) = cmI (fl' a) (fl' b) (ln' a) (ln' b) (ln' a) := by
  rw [← (h a ha).1, ← (h b hb).1]
  exact cmI_c (h a ha).2 (h b hb).2 _
theorem clN_c {R R' : Nat → Nat} {t : Nat} : ∀ i, (∀ j, j < i → R j = R' j) → clN R t i = clN R' t i := by
  intro i
  induction i with
  | zero => intro _; rfl
  | succ i ih =>
    intro h
    rw [clN, clN, ih (fun j hj => h j (by omega))]
    split
    · rfl
    · cases e : clN R' t i with
      | none => rfl
      | some b =>
        have hb : ∀ i b, clN R' t i = some b → b < i := by
          intro i
          induction i with
          | zero => intro b hb; cases hb
          | succ i ii =>
            intro b hb
            rw [clN] at hb
            split at hb
            · have := ii b hb; omega
            · split at hb
              · cases hb; omega
              · rename_i c hc
                split at hb
                · cases hb; omega
                · cases hb; have := ii _ hc; omega
        have := hb i b e
        simp only [h b (by omega), h i (Nat.lt_succ_self _)]
theorem unN_c {T mo : Nat} {ln ln' : Nat → Nat} {fl fl' : Nat → Nat → Int32} (h : agT T ln ln' fl fl') : ∀ t, t ≤ T → unN T mo ln fl t = unN T mo ln' fl' t := by
  intro t
  induction t with
  | zero => intro _; rfl
  | succ t ih => intro ht; rw [unN, unN, ih (by omega), kyN_c h (by omega)]
theorem hdN_c {T mo : Nat} {ln ln' : Nat → Nat} {fl fl' : Nat → Nat → Int32} (h : agT T ln ln' fl fl') : ∀ t, t ≤ T → hdN T mo ln fl t = hdN T mo ln' fl' t := by
  intro t
  induction t with
  | zero => intro _; rfl
  | succ t ih => intro ht; rw [hdN, hdN, ih (by omega), kyN_c h (by omega)]
theorem eqT_c {f f' g g' : Nat → Int32} {n m : Nat} (hf : agF n f f') (hg : agF m g g') : eqT f g n m = eqT f' g' n m := by
  unfold eqT mtB
  by_cases e : n = m
  · subst e
    congr 1
    exact decide_eq_decide.mpr ⟨fun h x hx => by rw [← hf x hx, ← hg (0 + x) (by omega)]; exact h x hx, fun h x hx => by rw [hf x hx, hg (0 + x) (by omega)]; exact h x hx⟩
  · rw [decide_eq_false e, Bool.false_and, Bool.false_and]
theorem dupB_c {T n : Nat} {ln ln' : Nat → Nat} {fl fl' : Nat → Nat → Int32} {f f' : Nat → Int32} (h : agT T ln ln' fl fl') (hf : agF n f f') : dupB T ln fl f n = dupB T ln' fl' f' n := by
  unfold dupB
  refine decide_eq_decide.mpr ⟨?_, ?_⟩
  · rintro ⟨t, ht, g⟩
    exact ⟨t, ht, by rw [← (h t ht).1, ← eqT_c (h t ht).2 hf]; exact g⟩
  · rintro ⟨t, ht, g⟩
    exact ⟨t, ht, by rw [eqT_c (h t ht).2 hf, (h t ht).1]; exact g⟩
theorem refV_cc {T n : Nat} {ln ln' : Nat → Nat} {fl fl' : Nat → Nat → Int32} {f f' : Nat → Int32} (h : agT T ln ln' fl fl') (hf : agF n f f') : refV T ln fl f n = refV T ln' fl' f' n := by
  unfold refV
  rw [dupB_c h hf]
theorem agT_ad {T n : Nat} {ln ln' : Nat → Nat} {fl fl' : Nat → Nat → Int32} {f f' : Nat → Int32} (h : agT T ln ln' fl fl') (hf : agF n f f') : agT (T + 1) (adF ln T n) (adF ln' T n) (adF fl T f) (adF fl' T f') := by
  intro t ht
  by_cases e : t = T
  · subst e; exact ⟨by simp [adF], by simpa [adF] using hf⟩
  · have := h t (by omega)
    simpa [adF, e] using this
theorem chN_c {T mo n : Nat} {ln ln' : Nat → Nat} {fl fl' : Nat → Nat → Int32} {f f' : Nat → Int32} (h : agT T ln ln' fl fl') (hf : agF n f f') : ∀ t, t ≤ T → chN T mo ln fl n f t = chN T mo ln' fl' n f' t := by
  intro t
  induction t with
  | zero => intro _; rfl
  | succ t ih => intro ht; rw [chN, chN, ih (by omega), kyN_c h (by omega), kyN_c (agT_ad h hf) (by omega)]
