/-- a command's step: none if it is not possible -/
def obX : mSt → Nat → Nat → Nat → Nat → (Nat → Int32) → Option mSt
  | (T, mo, od, ql, q, ln, fl, us), k, v, fr, to, g =>
    if k = 0 then (if refV T ln fl (fun j => g (fr + j)) (to - fr) < 0 then none else some (stAdd T mo od ql q ln fl us (to - fr) (fun j => g (fr + j)) (nI 0)))
    else if k = 1 then (if v < T then some (stDrop T mo od ql q ln fl us v) else none)
    else if k = 2 then some (T, v, od, ql, q, ln, fl, us)
    else if k = 3 then some (T, mo, v, ql, q, ln, fl, us)
    else if k = 4 then some (T, mo, od, to - fr, fun j => g (fr + j), ln, fl, us)
    else if k = 5 then (if v < (rkN T mo od ql q ln fl us T).1 then some (T, mo, od, 0, q, ln, fl, adF us ((rkN T mo od ql q ln fl us T).2 v) (us ((rkN T mo od ql q ln fl us T).2 v) + nI 1)) else none)
    else some (T, mo, od, 0, q, ln, fl, us)
theorem obX_0 {T mo od ql v fr to : Nat} {q : Nat → Int32} {ln : Nat → Nat} {fl : Nat → Nat → Int32} {us : Nat → Int32} {g : Nat → Int32} : obX (T, mo, od, ql, q, ln, fl, us) 0 v fr to g = if refV T ln fl (fun j => g (fr + j)) (to - fr) < 0 then none else some (stAdd T mo od ql q ln fl us (to - fr) (fun j => g (fr + j)) (nI 0)) := rfl
/-- a plan's commands from p on: the state, how many are done -/
def coS (g : Nat → Int32) (n : Nat) : Nat → Nat → mSt → Nat → mSt × Nat
  | 0, _, x, d => (x, d)
  | fu + 1, p, x, d => if cmO g n p = true then (match obX x ((cmK g n p).getD 7) (cmV g n p) (cmP g n p) (cmA g n p) g with
    | none => (x, d)
    | some y => if scB g n (cmA g n p) = true then coS g n fu (cmA g n p + 1) y (d + 1) else (y, d + 1)) else (x, d)
theorem isIx_nat {v c : Nat} (hv : v < 2 ^ 31) (hc : c < 2 ^ 31) : isIx (nI v) c = decide (v < c) := by
  unfold isIx
  refine decide_eq_decide.mpr ⟨fun h => ?_, fun h => ⟨nI_pos hv, ?_⟩⟩
  · have := h.2
    rw [nI_leI hc hv] at this
    omega
  · rw [nI_leI hc hv]; omega
theorem coS_no {g : Nat → Int32} {n fu p d : Nat} {x : mSt} (h : cmO g n p = false) : coS g n fu p x d = (x, d) := by
  cases fu with
  | zero => rfl
  | succ fu => rw [coS, if_neg (by rw [h]; decide)]
theorem coS_none {g : Nat → Int32} {n fu p d : Nat} {x : mSt} (h : obX x ((cmK g n p).getD 7) (cmV g n p) (cmP g n p) (cmA g n p) g = none) : coS g n fu p x d = (x, d) := by
  cases fu with
  | zero => rfl
  | succ fu => rw [coS, h]; split <;> rfl
theorem coS_last {g : Nat → Int32} {n fu p d : Nat} {x y : mSt} (h0 : cmO g n p = true) (h : obX x ((cmK g n p).getD 7) (cmV g n p) (cmP g n p) (cmA g n p) g = some y) (hs : scB g n (cmA g n p) = false) : coS g n (fu + 1) p x d = (y, d + 1) := by
  rw [coS, h, if_pos h0]
  show (if scB g n (cmA g n p) = true then _ else _) = _
  rw [if_neg (by rw [hs]; decide)]
theorem coS_next {g : Nat → Int32} {n fu p d : Nat} {x y : mSt} (h0 : cmO g n p = true) (h : obX x ((cmK g n p).getD 7) (cmV g n p) (cmP g n p) (cmA g n p) g = some y) (hs : scB g n (cmA g n p) = true) : coS g n (fu + 1) p x d = coS g n fu (cmA g n p + 1) y (d + 1) := by
  rw [coS, h, if_pos h0]
  show (if scB g n (cmA g n p) = true then _ else _) = _
  rw [if_pos hs]
/-- what a whole command is -/
theorem cmO_k {g : Nat → Int32} {n p : Nat} (hp : p ≤ n) (h : cmO g n p = true) : ∃ k, cmK g n p = some k ∧ k < 7 := by
  cases hK : cmK g n p with
  | none => unfold cmO at h; rw [hK] at h; cases h
  | some k => exact ⟨k, rfl, (cmP_le (g := g) hp).2.2 k hK⟩
theorem cm_title {g : Nat → Int32} {n p k : Nat} (hp : p ≤ n) (h : cmO g n p = true) (hK : cmK g n p = some k) (hk : k = 0 ∨ k = 4) : cmP g n p ≤ cmA g n p ∧ cmA g n p ≤ n ∧ TV (cmA g n p - cmP g n p) (fun j => g (cmP g n p + j)) := by
  have h1 := cmA_le (g := g) hp
  refine ⟨h1.1, h1.2, ?_⟩
  have e : cmA g n p = (ptF g n 24 (cmP g n p) true).1 := by unfold cmA; rw [hK]; rcases hk with rfl | rfl <;> rfl
  have e2 : (ptF g n 24 (cmP g n p) true).2 = false := by
    unfold cmO at h
    rw [hK] at h
    rcases hk with rfl | rfl <;> simpa using h
  rw [e]
  exact ptF_TV (cmP_le (g := g) hp).2.1 e2
theorem dg_lt {c : Int32} (h : isD c = true) : dg c < 10 := (isD_dg h).2
theorem pnV_lt {g : Nat → Int32} {n p : Nat} : pnV g n p < 100 := by
  unfold pnV
  split
  · rename_i h
    unfold pnN at h
    split at h
    · rename_i h1
      split at h
      · rename_i h2
        have := dg_lt h1.2
        have := dg_lt h2.2
        omega
      · omega
    · omega
  · split
    · rename_i h
      unfold pnN at h
      split at h
      · rename_i h1
        have := dg_lt h1.2
        omega
      · omega
    · omega
theorem cmV_lim {g : Nat → Int32} {n p k : Nat} (hp : p ≤ n) (hK : cmK g n p = some k) : cmV g n p < 100 ∧ (k = 2 → cmV g n p < 4) ∧ (k = 3 → cmV g n p < 3) := by
  have h2 : ∀ (a fu : Nat), ((po g n (cmP g n p) a fu 0).1.getD a) - a ≤ fu - 1 := by
    intro a fu
    have h := (po_le (g := g) (n := n) (p := cmP g n p) fu a 0 (by have := (cmP_le (g := g) hp).2.1; omega)).2.2.2
    cases e : (po g n (cmP g n p) a fu 0).1 with
    | none => show a - a ≤ _; omega
    | some j => have := h j e; show j - a ≤ _; omega
  have h7 := h2 7 4
  have h11 := h2 11 3
  have hv := pnV_lt (g := g) (n := n) (p := cmP g n p)
  unfold cmV
  rw [hK]
  split
  · rename_i e; cases e; exact ⟨hv, by omega, by omega⟩
  · rename_i e; cases e; exact ⟨hv, by omega, by omega⟩
  · rename_i e; cases e; exact ⟨by omega, by omega, by omega⟩
  · rename_i e; cases e; exact ⟨by omega, by omega, by omega⟩
  · exact ⟨by omega, by omega, by omega⟩
theorem cm_cv {g : Nat → Int32} {n p k fr to : Nat} {val : Int32} (hK : cmK g n p = some k) (h : cvP g n p val fr to) : ((k = 1 ∨ k = 2 ∨ k = 3 ∨ k = 5) → val = nI (cmV g n p)) ∧ ((k = 0 ∨ k = 4) → fr = cmP g n p ∧ to = cmA g n p) := by
  unfold cvP at h
  rw [hK] at h
  refine ⟨fun q => ?_, fun q => ?_⟩
  · rcases q with rfl | rfl | rfl | rfl <;> exact h
  · rcases q with rfl | rfl <;> exact h
/-- fr, to matter for titles alone, the number for the others -/
theorem obX_c {x : mSt} {k v fr to fr' to' : Nat} {g : Nat → Int32} (h : (k = 0 ∨ k = 4) → fr = fr' ∧ to = to') : obX x k v fr to g = obX x k v fr' to' g := by
  obtain ⟨T, mo, od, ql, q, ln, fl, us⟩ := x
  by_cases hk : k = 0 ∨ k = 4
  · obtain ⟨rfl, rfl⟩ := h hk; rfl
  · have h0 : ¬ k = 0 := fun e => hk (Or.inl e)
    have h4 : ¬ k = 4 := fun e => hk (Or.inr e)
    simp only [obX, if_neg h0, if_neg h4]
set_option maxRecDepth 100000 in
set_option maxHeartbeats 4000000 in
theorem c_copyP2 {G : mG} {M : mM} {x n p fr to : Nat} {cmd val : Int32} {g : Nat → Int32} (h : xR M x n p cmd val fr to g) {k s T mo od ql : Nat} {q : Nat → Int32} {ln : Nat → Nat} {fl : Nat → Nat → Int32} {us : Nat → Int32} (hs : sR G M k s T mo od ql q ln fl us) (hqn : ∀ j, j < 24 → vp_nar .char (q j) = q j) (hft : fr ≤ to) (hto : to ≤ n) (h24 : to - fr ≤ 24) (hch : ∀ k, k < n → vp_nar .char (g k) = g k) : CC G iX4_copyPassed 0 0 [.ref x, .ref s] M (fun r M1 => r = none ∧ ∃ q2, (∀ j, j < to - fr → q2 j = g (fr + j)) ∧ (∀ j, j < 24 → vp_nar .char (q2 j) = q2 j) ∧ sR G M1 k s T mo od (to - fr) q2 ln fl us ∧ mZ [100 + 10 * k, 103 + 10 * k] M M1) := by
  refine CC.of rfl (Nat.le_of_ble_eq_true rfl) rfl (fun X C Tr => ?_)
  show V X 0 0 0 [some (.ref x), some (.ref s), none] [] M
  obtain ⟨sa, hX, hG, hn⟩ := h
  have hX0 := hX
  have hG0 := hG
  obtain ⟨la, qa, cap, gg, ad, ifn, hS, hL, hQ, hT, hmo, hod, hql, hA⟩ := hs
  have hF : mZ [100 + 10 * k] M M := mZ.rf
  refine s_aload_n C 1 dX4_copyPassed_0 rfl rfl ?_
  refine s_iconst C 2 (nI 0) dX4_copyPassed_1 rfl (by decide) ?_
  refine s_putU C 5 dX4_copyPassed_2 rfl p_X4_125 hS (by first | decide | omega) rfl rfl rfl (fs' := [.ref la, .ref qa, .int (nI 0), .int (nI mo), .int (nI od)]) rfl (fun M1 U2 => ?_)
  have hX := U2.o hS hX (by first | decide | omega)
  have hG := U2.o hS hG (by first | decide | omega)
  have hF := hF.put U2 hS (by first | decide | (simp; done) | (simp; omega) | (simp [*]; done))
  have hS := U2.s
  have hs8 : sR G M1 k s T mo od 0 q ln fl us := sR.upd (hF.mono (by simp)) hS hL (hF.at hQ (by first | (simp; done) | (simp; omega))) hT hmo hod (by omega) hA
  have hF := hF.mono (T' := [100 + 10 * k, 103 + 10 * k]) (by simp)
  refine s_aload_n C 6 dX4_copyPassed_5 rfl rfl ?_
  refine s_getf C 9 dX4_copyPassed_6 rfl f_X4_52 hX rfl ?_
  refine s_istore_n C 10 dX4_copyPassed_9 rfl rfl rfl ?_
  dsimp only [List.set]
  suffices lp10 : ∀ (fu10 : Nat) (i : Nat) (q9 : Nat → Int32) (M9 : mM), to - i < fu10 → i ≤ to → fr ≤ i → (∀ j, j < i - fr → q9 j = g (fr + j)) → (∀ j, j < 24 → vp_nar .char (q9 j) = q9 j) → sR G M9 k s T mo od (i - fr) q9 ln fl us → mZ [100 + 10 * k, 103 + 10 * k] M M9 → V X 0 0 10 [some (.ref x), some (.ref s), some (.int (nI i))] [] M9 from lp10 81 fr q _ (by omega) (by omega) (by omega) (fun j hj => by omega) hqn (by rw [Nat.sub_self]; exact hs8) hF
  intro fu10
  induction fu10 with
  | zero => intro i q9 M9 hi0 hi hi2 hq9 hqn9 hs8 hF; omega
  | succ fu10 ih10 =>
    intro i q9 M9 hi0 hi hi2 hq9 hqn9 hs8 hF
    have hX := hF.at hX0 (by first | (simp; done) | (simp; omega))
    have hG := hF.at hG0 (by first | (simp; done) | (simp; omega))
    refine s_iload_n C 11 dX4_copyPassed_10 rfl rfl ?_
    refine s_aload_n C 12 dX4_copyPassed_11 rfl rfl ?_
    refine s_getf C 15 dX4_copyPassed_12 rfl f_X4_59 hX rfl ?_
    refine s_icmp_geN C 43 18 dX4_copyPassed_15 (by decide) rfl (by omega) (by omega) (fun z15 => ?_) (fun z15 => ?_)
    · skip
      have hi9 : i = to := by omega
      subst hi9
      exact s_vret C dX4_copyPassed_43 Tr rfl ⟨rfl, q9, hq9, hqn9, hs8, hF⟩
    · skip
      refine s_iload_n C 19 dX4_copyPassed_18 rfl rfl ?_
      refine s_aload_n C 20 dX4_copyPassed_19 rfl rfl ?_
      refine s_getf C 23 dX4_copyPassed_20 rfl f_X4_9 hX rfl ?_
      refine s_alen C 24 dX4_copyPassed_23 rfl hG (by decide) ?_
      refine s_icmp_geN C 43 27 dX4_copyPassed_24 (by decide) rfl (by omega) (by omega) (fun z24 => ?_) (fun z24 => ?_)
      · skip
        omega
      · skip
        refine s_aload_n C 28 dX4_copyPassed_27 rfl rfl ?_
        refine s_aload_n C 29 dX4_copyPassed_28 rfl rfl ?_
        refine s_getf C 32 dX4_copyPassed_29 rfl f_X4_9 hX rfl ?_
        refine s_iload_n C 33 dX4_copyPassed_32 rfl rfl ?_
        refine s_cald C 34 dX4_copyPassed_33 rfl hG (by omega) (by omega) ?_
        refine s_invV C 37 0 0 [] (sR_rv hs8) dX4_copyPassed_34 rfl m_X4_130 (c_append hs8 (hch i (by omega)) (by omega)) rfl rfl rfl ⟨by decide, by decide⟩ (Nat.le_of_ble_eq_true rfl) (by omega) (by omega) ?_
        rintro _ M3 ⟨rfl, hs7, hF7⟩
        dsimp only [Option.toList, List.cons_append, List.nil_append]
        have hX := hF7.at hX (by first | (simp; done) | (simp; omega))
        have hG := hF7.at hG (by first | (simp; done) | (simp; omega))
        have hF := hF.tr hF7
        refine s_iinc C 40 (nI (i + 1)) dX4_copyPassed_37 rfl rfl (by rw [← nI_add]; rfl) rfl ?_
        dsimp only [List.set]
        refine s_goto C 10 dX4_copyPassed_40 (by decide) ?_
        exact ih10 (i + 1) (upd q9 (i - fr) (g i)) _ (by omega) (by omega) (by omega) (fun j hj => by by_cases e : j = i - fr; (· rw [e, show fr + (i - fr) = i by omega]; exact pk_us); rw [pk_un e]; exact hq9 j (by omega)) (fun j hj => by by_cases e : j = i - fr; (· rw [e, pk_us]; exact hch i (by omega)); rw [pk_un e]; exact hqn9 j hj) (by rw [show i + 1 - fr = i - fr + 1 by omega]; exact hs7) hF

set_option maxRecDepth 100000 in
set_option maxHeartbeats 4000000 in
theorem z_obeyed {G : mG} {M : mM} {z T mo od ql c n : Nat} {q : Nat → Int32} {ln : Nat → Nat} {fl : Nat → Nat → Int32} {us : Nat → Int32} {hs : Nat → mSt} {g : Nat → Int32} {p k v fr to : Nat} {val : Int32} (hz : zT G M z (T, mo, od, ql, q, ln, fl, us) c hs n g p (nI k) val fr to) (hk7 : k < 7) (hv : (k = 1 ∨ k = 2 ∨ k = 3 ∨ k = 5) → val = nI v) (hv9 : v < 100) (hv2 : k = 2 → v < 4) (hv3 : k = 3 → v < 3) (ht : (k = 0 ∨ k = 4) → fr ≤ to ∧ to ≤ n ∧ TV (to - fr) (fun j => g (fr + j))) : CC G iX6_obeyed 4 74 [.ref z] M (fun r M1 => r = some (.int (mB (obX (T, mo, od, ql, q, ln, fl, us) k v fr to g).isSome)) ∧ (∃ val2, zT G M1 z ((obX (T, mo, od, ql, q, ln, fl, us) k v fr to g).getD (T, mo, od, ql, q, ln, fl, us)) c hs n g p (nI k) val2 fr to) ∧ mZ TZ M M1) := by
  refine CC.of rfl (Nat.le_of_ble_eq_true rfl) rfl (fun X C Tr => ?_)
  show V X 4 74 0 [some (.ref z)] [] M
  have hz9 := hz.R
  obtain ⟨s, tr, h, tx, rk, sy, hZ, hs0, ⟨yt, htr⟩, hh, hx, ⟨rc, rr, rp, hk⟩, ⟨y1, y2, y3, y4, yw, hy⟩, hch⟩ := hz
  obtain ⟨q9, hq9, hqn9, hsR⟩ := hs0.get
  have hsR0 := hsR
  obtain ⟨la, qa, cap, gg, ad, ifn, hS, hL, hQ, hT, hmo, hod, hql, hA⟩ := hsR
  have hx9 := hx
  obtain ⟨sa, hX, hGt, hn80⟩ := hx9
  have hrkT : ∀ j, j < (rkN T mo od ql q ln fl us T).1 → (rkN T mo od ql q ln fl us T).2 j < T := fun j hj => ((rkS_in (B := fun x y => cbB od x ((pmO mo ql q (ln x) (fl x)).getD 0) y ((pmO mo ql q (ln y) (fl y)).getD 0) ln fl us) (pm := fun x => pmO mo ql q (ln x) (fl x)) T).2 j hj).1
  refine s_aload_n C 1 dX6_obeyed_0 rfl rfl ?_
  refine s_getf C 4 dX6_obeyed_1 rfl f_X6_29 hZ rfl ?_
  refine s_getf C 7 dX6_obeyed_4 rfl f_X6_79 hX rfl ?_
  by_cases w7_0 : k = 0
  · skip
    refine s_tabI C 48 dX6_obeyed_7 (off := 41) (by rw [w7_0]; decide) (by rw [w7_0]; decide) (by rw [w7_0]; rfl) (by decide) ?_
    subst w7_0
    have hT0 : zT G M z (T, mo, od, ql, q, ln, fl, us) c hs n g p (nI 0) val fr to := ⟨s, tr, h, tx, rk, sy, hZ, hs0, ⟨_, htr⟩, hh, hx, ⟨_, _, _, hk⟩, ⟨_, _, _, _, _, hy⟩, hch⟩
    obtain ⟨hf1, hf2, hTV⟩ := ht (Or.inl rfl)
    refine s_aload_n C 49 dX6_obeyed_48 rfl rfl ?_
    refine s_aload_n C 50 dX6_obeyed_49 rfl rfl ?_
    refine s_getf C 53 dX6_obeyed_50 rfl f_X6_29 hZ rfl ?_
    refine s_invV C 56 1 22 [.ref z] (xR_rv hx) dX6_obeyed_53 rfl m_X6_82 (c_passedTitle hx (by omega) (by omega) hTV.2.1 hch) rfl rfl rfl ⟨by decide, by decide⟩ (Nat.le_of_ble_eq_true rfl) (by omega) (by omega) ?_
    rintro _ M1 ⟨b, i2, rfl, hnb, hIn, hTb, hFp⟩
    dsimp only [Option.toList, List.cons_append, List.nil_append]
    have hZ := hFp.at hZ (by first | (simp; done) | (simp; omega) | (rw [mem_TH]; omega) | (rw [mem_TZ]; omega))
    have hs0 := hs0.at hFp (by first | (simp; done) | (simp; omega) | (rw [mem_TH]; omega) | (rw [mem_TZ]; omega)) (by first | (simp; done) | (simp; omega) | (rw [mem_TH]; omega) | (rw [mem_TZ]; omega)) (fun j hj => by first | (simp; done) | (simp; omega) | (rw [mem_TH]; omega) | (rw [mem_TZ]; omega))
    have htr := htr.at hFp (by first | (simp; done) | (simp; omega) | (rw [mem_TH]; omega) | (rw [mem_TZ]; omega)) (by first | (simp; done) | (simp; omega) | (rw [mem_TH]; omega) | (rw [mem_TZ]; omega)) (fun j hj => by first | (simp; done) | (simp; omega) | (rw [mem_TH]; omega) | (rw [mem_TZ]; omega))
    have hh := hh.at hFp (by first | (simp; done) | (simp; omega) | (rw [mem_TH]; omega) | (rw [mem_TZ]; omega)) (by first | (simp; done) | (simp; omega) | (rw [mem_TH]; omega) | (rw [mem_TZ]; omega)) (by first | (simp; done) | (simp; omega) | (rw [mem_TH]; omega) | (rw [mem_TZ]; omega)) (fun t ht => by rw [mem_TH] at ht; first | (simp; done) | (simp; omega))
    have hx := hx.at hFp (by first | (simp; done) | (simp; omega) | (rw [mem_TH]; omega) | (rw [mem_TZ]; omega)) (by first | (simp; done) | (simp; omega) | (rw [mem_TH]; omega) | (rw [mem_TZ]; omega))
    have hk := hk.at hFp (by first | (simp; done) | (simp; omega) | (rw [mem_TH]; omega) | (rw [mem_TZ]; omega)) (by first | (simp; done) | (simp; omega) | (rw [mem_TH]; omega) | (rw [mem_TZ]; omega)) (by first | (simp; done) | (simp; omega) | (rw [mem_TH]; omega) | (rw [mem_TZ]; omega))
    have hy := hy.at hFp (by first | (simp; done) | (simp; omega) | (rw [mem_TH]; omega) | (rw [mem_TZ]; omega)) (by first | (simp; done) | (simp; omega) | (rw [mem_TH]; omega) | (rw [mem_TZ]; omega)) (by first | (simp; done) | (simp; omega) | (rw [mem_TH]; omega) | (rw [mem_TZ]; omega))
    obtain ⟨q9, hq9, hqn9, hsR⟩ := hs0.get
    have hsR0 := hsR
    obtain ⟨la, qa, cap, gg, ad, ifn, hS, hL, hQ, hT, hmo, hod, hql, hA⟩ := hsR
    have hT1 : zT G M1 z (T, mo, od, ql, q, ln, fl, us) c hs n g p (nI 0) val fr to := ⟨s, tr, h, tx, rk, sy, hZ, hs0, ⟨_, htr⟩, hh, hx, ⟨_, _, _, hk⟩, ⟨_, _, _, _, _, hy⟩, hch⟩
    refine s_invV C 59 0 0 [] (zR_rv hT1.R) dX6_obeyed_56 rfl m_X6_86 (z_addIf hT1.R hTb hIn hTV) rfl rfl rfl ⟨by decide, by decide⟩ (Nat.le_of_ble_eq_true rfl) (by omega) (by omega) ?_
    rintro _ M2 ⟨rfl, hz8, hFr⟩
    dsimp only [Option.toList, List.cons_append, List.nil_append]
    have hT2 := hT1.keep hFr (by simp) (by simp) (by simp) hz8
    refine s_if_lt C 66 62 dX6_obeyed_59 (by decide) rfl (fun z59 => ?_) (fun z59 => ?_)
    · skip
      have hN : refV T ln fl (fun j => g (fr + j)) (to - fr) < 0 := by by_cases hN : refV T ln fl (fun j => g (fr + j)) (to - fr) < 0; (· exact hN); rw [if_neg hN] at z59; exact absurd z59 (nI_pos (by omega))
      refine s_iconst C 67 (nI 0) dX6_obeyed_66 rfl (by decide) ?_
      exact s_zret C dX6_obeyed_67 Tr rfl (by decide) ⟨rF (by rw [obX_0, if_pos hN]; rfl), ⟨_, by rw [obX_0, if_pos hN]; rw [if_pos hN] at hT2; exact hT2⟩, (((hFp.mono (fun t ht => by first | (rw [mem_TH] at ht; rw [mem_TZ]; omega) | (simp at ht; done) | (rw [mem_TZ]; simp at ht; omega)))).tr (hFr.mono (fun t ht => by first | (rw [mem_TH] at ht; rw [mem_TZ]; omega) | (simp at ht; done) | (rw [mem_TZ]; simp at ht; omega))))⟩
    · skip
      have hN : ¬ refV T ln fl (fun j => g (fr + j)) (to - fr) < 0 := fun hN => z59 (by rw [if_pos hN]; exact hN)
      refine s_iconst C 63 (nI 1) dX6_obeyed_62 rfl (by decide) ?_
      refine s_goto C 67 dX6_obeyed_63 (by decide) ?_
      exact s_zret C dX6_obeyed_67 Tr rfl (by decide) ⟨rT (by rw [obX_0, if_neg hN]; rfl), ⟨_, by rw [obX_0, if_neg hN]; rw [if_neg hN] at hT2; exact hT2⟩, (((hFp.mono (fun t ht => by first | (rw [mem_TH] at ht; rw [mem_TZ]; omega) | (simp at ht; done) | (rw [mem_TZ]; simp at ht; omega)))).tr (hFr.mono (fun t ht => by first | (rw [mem_TH] at ht; rw [mem_TZ]; omega) | (simp at ht; done) | (rw [mem_TZ]; simp at ht; omega))))⟩
  by_cases w7_1 : k = 1
  · skip
    refine s_tabI C 68 dX6_obeyed_7 (off := 61) (by rw [w7_1]; decide) (by rw [w7_1]; decide) (by rw [w7_1]; rfl) (by decide) ?_
    have hvv := hv (by omega)
    subst hvv
    subst w7_1
    have hT0 : zT G M z (T, mo, od, ql, q, ln, fl, us) c hs n g p (nI 1) (nI v) fr to := ⟨s, tr, h, tx, rk, sy, hZ, hs0, ⟨_, htr⟩, hh, hx, ⟨_, _, _, hk⟩, ⟨_, _, _, _, _, hy⟩, hch⟩
    refine s_aload_n C 69 dX6_obeyed_68 rfl rfl ?_
    refine s_aload_n C 70 dX6_obeyed_69 rfl rfl ?_
    refine s_getf C 73 dX6_obeyed_70 rfl f_X6_29 hZ rfl ?_
    refine s_getf C 76 dX6_obeyed_73 rfl f_X6_90 hX rfl ?_
    refine s_invV C 79 0 0 [] (zR_rv hz9) dX6_obeyed_76 rfl m_X6_93 (z_dropIf hz9 (a := nI v)) rfl rfl rfl ⟨by decide, by decide⟩ (Nat.le_of_ble_eq_true rfl) (by omega) (by omega) ?_
    rintro _ M3 ⟨rfl, hz8, hFr⟩
    dsimp only [Option.toList, List.cons_append, List.nil_append]
    rw [isIx_nat (by omega) (by omega)]
    rw [isIx_nat (by omega) (by omega)] at hz8
    have hT2 := hT0.keep hFr (by simp) (by simp) (by simp) hz8
    exact s_zret C dX6_obeyed_79 Tr rfl (mB_z _) ⟨by by_cases hN : v < T <;> simp [obX, hN], ⟨_, by by_cases hN : v < T; (· rw [if_pos (decide_eq_true hN), nI_clamp (by omega)] at hT2; simpa [obX, hN] using hT2); rw [if_neg (by simpa using hN)] at hT2; simpa [obX, hN] using hT2⟩, (hFr.mono (fun t ht => by first | (rw [mem_TH] at ht; rw [mem_TZ]; omega) | (simp at ht; done) | (rw [mem_TZ]; simp at ht; omega)))⟩
  by_cases w7_2 : k = 2
  · skip
    refine s_tabI C 80 dX6_obeyed_7 (off := 73) (by rw [w7_2]; decide) (by rw [w7_2]; decide) (by rw [w7_2]; rfl) (by decide) ?_
    have hvv := hv (by omega)
    subst hvv
    subst w7_2
    have hFs : mZ [100 + 10 * 0, 103 + 10 * 0] M M := mZ.rf
    refine s_aload_n C 81 dX6_obeyed_80 rfl rfl ?_
    refine s_getf C 84 dX6_obeyed_81 rfl f_X6_10 hZ rfl ?_
    refine s_aload_n C 85 dX6_obeyed_84 rfl rfl ?_
    refine s_getf C 88 dX6_obeyed_85 rfl f_X6_29 hZ rfl ?_
    refine s_getf C 91 dX6_obeyed_88 rfl f_X6_90 hX rfl ?_
    refine s_putU C 94 dX6_obeyed_91 rfl p_X6_97 hS (by first | decide | omega) rfl rfl rfl (fs' := [.ref la, .ref qa, .int (nI ql), .int (nI v), .int (nI od)]) rfl (fun M4 U5 => ?_)
    have hZ := U5.o hS hZ (by first | decide | omega)
    have hQ := U5.o hS hQ (by first | decide | omega)
    have hX := U5.o hS hX (by first | decide | omega)
    have hGt := U5.o hS hGt (by first | decide | omega)
    have hFs := hFs.put U5 hS (by first | decide | (simp; done) | (simp; omega) | (simp [*]; done))
    have hS := U5.s
    refine s_iconst C 95 (nI 1) dX6_obeyed_94 rfl (by decide) ?_
    exact s_zret C dX6_obeyed_95 Tr rfl (by decide) ⟨rT (by simp [obX]), ⟨_, ⟨s, tr, h, tx, rk, sy, hZ, (sS.mk hq9 hqn9 (sR.upd hFs hS hL hQ hT (by omega) (by omega) hql hA)), ⟨_, htr.at hFs (by first | (simp; done) | (simp; omega) | (rw [mem_TH]; omega) | (rw [mem_TZ]; omega)) (by first | (simp; done) | (simp; omega) | (rw [mem_TH]; omega) | (rw [mem_TZ]; omega)) (fun j hj => by first | (simp; done) | (simp; omega) | (rw [mem_TH]; omega) | (rw [mem_TZ]; omega))⟩, (hh.at hFs (by first | (simp; done) | (simp; omega) | (rw [mem_TH]; omega) | (rw [mem_TZ]; omega)) (by first | (simp; done) | (simp; omega) | (rw [mem_TH]; omega) | (rw [mem_TZ]; omega)) (by first | (simp; done) | (simp; omega) | (rw [mem_TH]; omega) | (rw [mem_TZ]; omega)) (fun t ht => by rw [mem_TH] at ht; first | (simp; done) | (simp; omega))), (hx.at hFs (by first | (simp; done) | (simp; omega) | (rw [mem_TH]; omega) | (rw [mem_TZ]; omega)) (by first | (simp; done) | (simp; omega) | (rw [mem_TH]; omega) | (rw [mem_TZ]; omega))), ⟨_, _, _, (hk.at hFs (by first | (simp; done) | (simp; omega) | (rw [mem_TH]; omega) | (rw [mem_TZ]; omega)) (by first | (simp; done) | (simp; omega) | (rw [mem_TH]; omega) | (rw [mem_TZ]; omega)) (by first | (simp; done) | (simp; omega) | (rw [mem_TH]; omega) | (rw [mem_TZ]; omega)))⟩, ⟨_, _, _, _, _, (hy.at hFs (by first | (simp; done) | (simp; omega) | (rw [mem_TH]; omega) | (rw [mem_TZ]; omega)) (by first | (simp; done) | (simp; omega) | (rw [mem_TH]; omega) | (rw [mem_TZ]; omega)) (by first | (simp; done) | (simp; omega) | (rw [mem_TH]; omega) | (rw [mem_TZ]; omega)))⟩, hch⟩⟩, (hFs.mono (fun t ht => by first | (rw [mem_TH] at ht; rw [mem_TZ]; omega) | (simp at ht; done) | (rw [mem_TZ]; simp at ht; omega)))⟩
  by_cases w7_3 : k = 3
  · skip
    refine s_tabI C 96 dX6_obeyed_7 (off := 89) (by rw [w7_3]; decide) (by rw [w7_3]; decide) (by rw [w7_3]; rfl) (by decide) ?_
    have hvv := hv (by omega)
    subst hvv
    subst w7_3
    have hFs : mZ [100 + 10 * 0, 103 + 10 * 0] M M := mZ.rf
    refine s_aload_n C 97 dX6_obeyed_96 rfl rfl ?_
    refine s_getf C 100 dX6_obeyed_97 rfl f_X6_10 hZ rfl ?_
    refine s_aload_n C 101 dX6_obeyed_100 rfl rfl ?_
    refine s_getf C 104 dX6_obeyed_101 rfl f_X6_29 hZ rfl ?_
    refine s_getf C 107 dX6_obeyed_104 rfl f_X6_90 hX rfl ?_
    refine s_putU C 110 dX6_obeyed_107 rfl p_X6_100 hS (by first | decide | omega) rfl rfl rfl (fs' := [.ref la, .ref qa, .int (nI ql), .int (nI mo), .int (nI v)]) rfl (fun M6 U7 => ?_)
    have hZ := U7.o hS hZ (by first | decide | omega)
    have hQ := U7.o hS hQ (by first | decide | omega)
    have hX := U7.o hS hX (by first | decide | omega)
    have hGt := U7.o hS hGt (by first | decide | omega)
    have hFs := hFs.put U7 hS (by first | decide | (simp; done) | (simp; omega) | (simp [*]; done))
    have hS := U7.s
    refine s_iconst C 111 (nI 1) dX6_obeyed_110 rfl (by decide) ?_
    exact s_zret C dX6_obeyed_111 Tr rfl (by decide) ⟨rT (by simp [obX]), ⟨_, ⟨s, tr, h, tx, rk, sy, hZ, (sS.mk hq9 hqn9 (sR.upd hFs hS hL hQ hT (by omega) (by omega) hql hA)), ⟨_, htr.at hFs (by first | (simp; done) | (simp; omega) | (rw [mem_TH]; omega) | (rw [mem_TZ]; omega)) (by first | (simp; done) | (simp; omega) | (rw [mem_TH]; omega) | (rw [mem_TZ]; omega)) (fun j hj => by first | (simp; done) | (simp; omega) | (rw [mem_TH]; omega) | (rw [mem_TZ]; omega))⟩, (hh.at hFs (by first | (simp; done) | (simp; omega) | (rw [mem_TH]; omega) | (rw [mem_TZ]; omega)) (by first | (simp; done) | (simp; omega) | (rw [mem_TH]; omega) | (rw [mem_TZ]; omega)) (by first | (simp; done) | (simp; omega) | (rw [mem_TH]; omega) | (rw [mem_TZ]; omega)) (fun t ht => by rw [mem_TH] at ht; first | (simp; done) | (simp; omega))), (hx.at hFs (by first | (simp; done) | (simp; omega) | (rw [mem_TH]; omega) | (rw [mem_TZ]; omega)) (by first | (simp; done) | (simp; omega) | (rw [mem_TH]; omega) | (rw [mem_TZ]; omega))), ⟨_, _, _, (hk.at hFs (by first | (simp; done) | (simp; omega) | (rw [mem_TH]; omega) | (rw [mem_TZ]; omega)) (by first | (simp; done) | (simp; omega) | (rw [mem_TH]; omega) | (rw [mem_TZ]; omega)) (by first | (simp; done) | (simp; omega) | (rw [mem_TH]; omega) | (rw [mem_TZ]; omega)))⟩, ⟨_, _, _, _, _, (hy.at hFs (by first | (simp; done) | (simp; omega) | (rw [mem_TH]; omega) | (rw [mem_TZ]; omega)) (by first | (simp; done) | (simp; omega) | (rw [mem_TH]; omega) | (rw [mem_TZ]; omega)) (by first | (simp; done) | (simp; omega) | (rw [mem_TH]; omega) | (rw [mem_TZ]; omega)))⟩, hch⟩⟩, (hFs.mono (fun t ht => by first | (rw [mem_TH] at ht; rw [mem_TZ]; omega) | (simp at ht; done) | (rw [mem_TZ]; simp at ht; omega)))⟩
  by_cases w7_4 : k = 4
  · skip
    refine s_tabI C 112 dX6_obeyed_7 (off := 105) (by rw [w7_4]; decide) (by rw [w7_4]; decide) (by rw [w7_4]; rfl) (by decide) ?_
    subst w7_4
    have hT0 : zT G M z (T, mo, od, ql, q, ln, fl, us) c hs n g p (nI 4) val fr to := ⟨s, tr, h, tx, rk, sy, hZ, hs0, ⟨_, htr⟩, hh, hx, ⟨_, _, _, hk⟩, ⟨_, _, _, _, _, hy⟩, hch⟩
    obtain ⟨hf1, hf2, hTV⟩ := ht (Or.inr rfl)
    refine s_aload_n C 113 dX6_obeyed_112 rfl rfl ?_
    refine s_getf C 116 dX6_obeyed_113 rfl f_X6_29 hZ rfl ?_
    refine s_aload_n C 117 dX6_obeyed_116 rfl rfl ?_
    refine s_getf C 120 dX6_obeyed_117 rfl f_X6_10 hZ rfl ?_
    have hqn0 := hqn9
    refine s_invV C 123 4 74 [] (xR_rv hx) dX6_obeyed_120 rfl m_X6_103 (c_copyP2 hx hsR0 hqn9 (by omega) (by omega) hTV.2.1 hch) rfl rfl rfl ⟨by decide, by decide⟩ (Nat.le_of_ble_eq_true rfl) (by omega) (by omega) ?_
    rintro _ M8 ⟨rfl, q2, hq2, hqn2, hsR2, hFc⟩
    dsimp only [Option.toList, List.cons_append, List.nil_append]
    have hZ := hFc.at hZ (by first | (simp; done) | (simp; omega) | (rw [mem_TH]; omega) | (rw [mem_TZ]; omega))
    have htr := htr.at hFc (by first | (simp; done) | (simp; omega) | (rw [mem_TH]; omega) | (rw [mem_TZ]; omega)) (by first | (simp; done) | (simp; omega) | (rw [mem_TH]; omega) | (rw [mem_TZ]; omega)) (fun j hj => by first | (simp; done) | (simp; omega) | (rw [mem_TH]; omega) | (rw [mem_TZ]; omega))
    have hh := hh.at hFc (by first | (simp; done) | (simp; omega) | (rw [mem_TH]; omega) | (rw [mem_TZ]; omega)) (by first | (simp; done) | (simp; omega) | (rw [mem_TH]; omega) | (rw [mem_TZ]; omega)) (by first | (simp; done) | (simp; omega) | (rw [mem_TH]; omega) | (rw [mem_TZ]; omega)) (fun t ht => by rw [mem_TH] at ht; first | (simp; done) | (simp; omega))
    have hx := hx.at hFc (by first | (simp; done) | (simp; omega) | (rw [mem_TH]; omega) | (rw [mem_TZ]; omega)) (by first | (simp; done) | (simp; omega) | (rw [mem_TH]; omega) | (rw [mem_TZ]; omega))
    have hk := hk.at hFc (by first | (simp; done) | (simp; omega) | (rw [mem_TH]; omega) | (rw [mem_TZ]; omega)) (by first | (simp; done) | (simp; omega) | (rw [mem_TH]; omega) | (rw [mem_TZ]; omega)) (by first | (simp; done) | (simp; omega) | (rw [mem_TH]; omega) | (rw [mem_TZ]; omega))
    have hy := hy.at hFc (by first | (simp; done) | (simp; omega) | (rw [mem_TH]; omega) | (rw [mem_TZ]; omega)) (by first | (simp; done) | (simp; omega) | (rw [mem_TH]; omega) | (rw [mem_TZ]; omega)) (by first | (simp; done) | (simp; omega) | (rw [mem_TH]; omega) | (rw [mem_TZ]; omega))
    have hs9 : sS G M8 0 s (T, mo, od, to - fr, fun j => g (fr + j), ln, fl, us) := sS.mk hq2 hqn2 hsR2
    refine s_iconst C 124 (nI 1) dX6_obeyed_123 rfl (by decide) ?_
    exact s_zret C dX6_obeyed_124 Tr rfl (by decide) ⟨rT (by simp [obX]), ⟨_, ⟨s, tr, h, tx, rk, sy, hZ, hs9, ⟨_, htr⟩, hh, hx, ⟨_, _, _, hk⟩, ⟨_, _, _, _, _, hy⟩, hch⟩⟩, (hFc.mono (fun t ht => by first | (rw [mem_TH] at ht; rw [mem_TZ]; omega) | (simp at ht; done) | (rw [mem_TZ]; simp at ht; omega)))⟩
  by_cases w7_5 : k = 5
  · skip
    refine s_tabI C 125 dX6_obeyed_7 (off := 118) (by rw [w7_5]; decide) (by rw [w7_5]; decide) (by rw [w7_5]; rfl) (by decide) ?_
    have hvv := hv (by omega)
    subst hvv
    subst w7_5
    have hT0 : zT G M z (T, mo, od, ql, q, ln, fl, us) c hs n g p (nI 5) (nI v) fr to := ⟨s, tr, h, tx, rk, sy, hZ, hs0, ⟨_, htr⟩, hh, hx, ⟨_, _, _, hk⟩, ⟨_, _, _, _, _, hy⟩, hch⟩
    refine s_aload_n C 126 dX6_obeyed_125 rfl rfl ?_
    refine s_aload_n C 127 dX6_obeyed_126 rfl rfl ?_
    refine s_getf C 130 dX6_obeyed_127 rfl f_X6_29 hZ rfl ?_
    refine s_getf C 133 dX6_obeyed_130 rfl f_X6_90 hX rfl ?_
    have hrk31 : (rkN T mo od ql q ln fl us T).1 < 2 ^ 31 := by have := (rkS_in (B := fun x y => cbB od x ((pmO mo ql q (ln x) (fl x)).getD 0) y ((pmO mo ql q (ln y) (fl y)).getD 0) ln fl us) (pm := fun x => pmO mo ql q (ln x) (fl x)) T).1; unfold rkN; omega
    refine s_invV C 136 0 0 [] (zR_rv hz9) dX6_obeyed_133 rfl m_X6_106 (z_pickIf hz9 (a := nI v)) rfl rfl rfl ⟨by decide, by decide⟩ (Nat.le_of_ble_eq_true rfl) (by omega) (by omega) ?_
    rintro _ M9 ⟨rfl, hz8, hFr⟩
    dsimp only [Option.toList, List.cons_append, List.nil_append]
    rw [isIx_nat (by omega) hrk31]
    rw [isIx_nat (by omega) hrk31] at hz8
    have hT2 := hT0.keep hFr (by simp) (by simp) (by simp) hz8
    refine s_if_lt C 143 139 dX6_obeyed_136 (by decide) rfl (fun z136 => ?_) (fun z136 => ?_)
    · skip
      have hN : ¬ v < (rkN T mo od ql q ln fl us T).1 := fun hN => by rw [if_pos (decide_eq_true hN)] at z136; exact nI_pos (by have := hrkT v hN; rw [nI_clamp (by omega)]; omega) z136
      refine s_iconst C 144 (nI 0) dX6_obeyed_143 rfl (by decide) ?_
      exact s_zret C dX6_obeyed_144 Tr rfl (by decide) ⟨rF (by simp [obX, hN]), ⟨_, by rw [if_neg (by simpa using hN)] at hT2; simpa [obX, hN] using hT2⟩, (hFr.mono (fun t ht => by first | (rw [mem_TH] at ht; rw [mem_TZ]; omega) | (simp at ht; done) | (rw [mem_TZ]; simp at ht; omega)))⟩
    · skip
      have hN : v < (rkN T mo od ql q ln fl us T).1 := by by_cases hN : v < (rkN T mo od ql q ln fl us T).1; (· exact hN); rw [if_neg (by simpa using hN)] at z136; exact absurd (by decide) z136
      refine s_iconst C 140 (nI 1) dX6_obeyed_139 rfl (by decide) ?_
      refine s_goto C 144 dX6_obeyed_140 (by decide) ?_
      exact s_zret C dX6_obeyed_144 Tr rfl (by decide) ⟨rT (by simp [obX, hN]), ⟨_, by rw [if_pos (decide_eq_true hN), nI_clamp (by omega)] at hT2; simpa [obX, hN] using hT2⟩, (hFr.mono (fun t ht => by first | (rw [mem_TH] at ht; rw [mem_TZ]; omega) | (simp at ht; done) | (rw [mem_TZ]; simp at ht; omega)))⟩
  by_cases w7_6 : k = 6
  · skip
    refine s_tabI C 145 dX6_obeyed_7 (off := 138) (by rw [w7_6]; decide) (by rw [w7_6]; decide) (by rw [w7_6]; rfl) (by decide) ?_
    subst w7_6
    have hFs : mZ [100 + 10 * 0, 103 + 10 * 0] M M := mZ.rf
    refine s_aload_n C 146 dX6_obeyed_145 rfl rfl ?_
    refine s_getf C 149 dX6_obeyed_146 rfl f_X6_10 hZ rfl ?_
    refine s_iconst C 150 (nI 0) dX6_obeyed_149 rfl (by decide) ?_
    refine s_putU C 153 dX6_obeyed_150 rfl p_X6_110 hS (by first | decide | omega) rfl rfl rfl (fs' := [.ref la, .ref qa, .int (nI 0), .int (nI mo), .int (nI od)]) rfl (fun M10 U11 => ?_)
    have hZ := U11.o hS hZ (by first | decide | omega)
    have hQ := U11.o hS hQ (by first | decide | omega)
    have hX := U11.o hS hX (by first | decide | omega)
    have hGt := U11.o hS hGt (by first | decide | omega)
    have hFs := hFs.put U11 hS (by first | decide | (simp; done) | (simp; omega) | (simp [*]; done))
    have hS := U11.s
    refine s_iconst C 154 (nI 1) dX6_obeyed_153 rfl (by decide) ?_
    exact s_zret C dX6_obeyed_154 Tr rfl (by decide) ⟨rT (by simp [obX]), ⟨_, ⟨s, tr, h, tx, rk, sy, hZ, (sS.mk (fun y hy => absurd hy (Nat.not_lt_zero _)) hqn9 (sR.upd hFs hS hL hQ hT hmo hod (by omega) hA)), ⟨_, htr.at hFs (by first | (simp; done) | (simp; omega) | (rw [mem_TH]; omega) | (rw [mem_TZ]; omega)) (by first | (simp; done) | (simp; omega) | (rw [mem_TH]; omega) | (rw [mem_TZ]; omega)) (fun j hj => by first | (simp; done) | (simp; omega) | (rw [mem_TH]; omega) | (rw [mem_TZ]; omega))⟩, (hh.at hFs (by first | (simp; done) | (simp; omega) | (rw [mem_TH]; omega) | (rw [mem_TZ]; omega)) (by first | (simp; done) | (simp; omega) | (rw [mem_TH]; omega) | (rw [mem_TZ]; omega)) (by first | (simp; done) | (simp; omega) | (rw [mem_TH]; omega) | (rw [mem_TZ]; omega)) (fun t ht => by rw [mem_TH] at ht; first | (simp; done) | (simp; omega))), (hx.at hFs (by first | (simp; done) | (simp; omega) | (rw [mem_TH]; omega) | (rw [mem_TZ]; omega)) (by first | (simp; done) | (simp; omega) | (rw [mem_TH]; omega) | (rw [mem_TZ]; omega))), ⟨_, _, _, (hk.at hFs (by first | (simp; done) | (simp; omega) | (rw [mem_TH]; omega) | (rw [mem_TZ]; omega)) (by first | (simp; done) | (simp; omega) | (rw [mem_TH]; omega) | (rw [mem_TZ]; omega)) (by first | (simp; done) | (simp; omega) | (rw [mem_TH]; omega) | (rw [mem_TZ]; omega)))⟩, ⟨_, _, _, _, _, (hy.at hFs (by first | (simp; done) | (simp; omega) | (rw [mem_TH]; omega) | (rw [mem_TZ]; omega)) (by first | (simp; done) | (simp; omega) | (rw [mem_TH]; omega) | (rw [mem_TZ]; omega)) (by first | (simp; done) | (simp; omega) | (rw [mem_TH]; omega) | (rw [mem_TZ]; omega)))⟩, hch⟩⟩, (hFs.mono (fun t ht => by first | (rw [mem_TH] at ht; rw [mem_TZ]; omega) | (simp at ht; done) | (rw [mem_TZ]; simp at ht; omega)))⟩
  refine s_tabO C 155 dX6_obeyed_7 (by rw [nI_toInt (by omega)]; omega) (by decide) ?_
  omega

theorem ffO_lt {g : Nat → Int32} {n : Nat} : ∀ (fu p : Nat), n ≤ 80 → p ≤ n → ∀ j, ffO g n fu p = some j → j < 100 := by
  intro fu
  induction fu with
  | zero => intro p h80 hp j hj; cases hj; omega
  | succ fu ih =>
    intro p h80 hp j hj
    rw [ffO] at hj
    have hA := cmA_le (g := g) hp
    split at hj
    · split at hj
      · cases hj
      · split at hj
        · rename_i hs
          exact ih _ h80 (by unfold scB at hs; have := (of_decide_eq_true hs).1; omega) j hj
        · cases hj; omega
    · cases hj; omega
set_option maxRecDepth 100000 in
set_option maxHeartbeats 4000000 in
theorem z_carryOut {G : mG} {M : mM} {z T mo od ql c n : Nat} {q : Nat → Int32} {ln : Nat → Nat} {fl : Nat → Nat → Int32} {us : Nat → Int32} {hs : Nat → mSt} {g : Nat → Int32} (hz : zR G M z (T, mo, od, ql, q, ln, fl, us) c hs n g) : CC G iX6_carryOut 336 6272 [.ref z] M (fun r M1 => r = some (.int (if ffO g n 81 0 = none then nI (coS g n 80 0 (T, mo, od, ql, q, ln, fl, us) 0).2 else -5)) ∧ zR G M1 z (if ffO g n 81 0 = none then (coS g n 80 0 (T, mo, od, ql, q, ln, fl, us) 0).1 else (T, mo, od, ql, q, ln, fl, us)) (if ffO g n 81 0 = none then (min (c + 1) 6) else c) (if ffO g n 81 0 = none then (hPush (T, mo, od, ql, q, ln, fl, us) hs) else hs) (if ffO g n 81 0 = none then 0 else n) g ∧ mZ TZ M M1) := by
  refine CC.of rfl (Nat.le_of_ble_eq_true rfl) rfl (fun X C Tr => ?_)
  show V X 336 6272 0 [some (.ref z), none] [] M
  obtain ⟨rc, rr, rp, y1, y2, y3, y4, s, tr, h, tx, rk, sy, hZ, hs0, ⟨yt, htr⟩, hh, ⟨p, cmd, val, fr, to, hx⟩, hk, ⟨yw, hy⟩, hch⟩ := hz
  have hx0 := hx
  obtain ⟨-, -, -, hn80⟩ := hx0
  refine s_aload_n C 1 dX6_carryOut_0 rfl rfl ?_
  refine s_getf C 4 dX6_carryOut_1 rfl f_X6_29 hZ rfl ?_
  refine s_invV C 7 336 6272 [] (xR_rv hx) dX6_carryOut_4 rfl m_X6_58 (c_findFault hx) rfl rfl rfl ⟨by decide, by decide⟩ (Nat.le_of_ble_eq_true rfl) (by omega) (by omega) ?_
  rintro _ M1 ⟨rfl, hx8, hFx⟩
  dsimp only [Option.toList, List.cons_append, List.nil_append]
  obtain ⟨p2, c2, v2, f2, t2, hx⟩ := hx8
  have hZ := hFx.at hZ (by first | (simp; done) | (simp; omega) | (rw [mem_TH]; omega) | (rw [mem_TZ]; omega))
  have hs0 := hs0.at hFx (by first | (simp; done) | (simp; omega) | (rw [mem_TH]; omega) | (rw [mem_TZ]; omega)) (by first | (simp; done) | (simp; omega) | (rw [mem_TH]; omega) | (rw [mem_TZ]; omega)) (fun j hj => by first | (simp; done) | (simp; omega) | (rw [mem_TH]; omega) | (rw [mem_TZ]; omega))
  have htr := htr.at hFx (by first | (simp; done) | (simp; omega) | (rw [mem_TH]; omega) | (rw [mem_TZ]; omega)) (by first | (simp; done) | (simp; omega) | (rw [mem_TH]; omega) | (rw [mem_TZ]; omega)) (fun j hj => by first | (simp; done) | (simp; omega) | (rw [mem_TH]; omega) | (rw [mem_TZ]; omega))
  have hh := hh.at hFx (by first | (simp; done) | (simp; omega) | (rw [mem_TH]; omega) | (rw [mem_TZ]; omega)) (by first | (simp; done) | (simp; omega) | (rw [mem_TH]; omega) | (rw [mem_TZ]; omega)) (by first | (simp; done) | (simp; omega) | (rw [mem_TH]; omega) | (rw [mem_TZ]; omega)) (fun t ht => by rw [mem_TH] at ht; first | (simp; done) | (simp; omega))
  have hk := hk.at hFx (by first | (simp; done) | (simp; omega) | (rw [mem_TH]; omega) | (rw [mem_TZ]; omega)) (by first | (simp; done) | (simp; omega) | (rw [mem_TH]; omega) | (rw [mem_TZ]; omega)) (by first | (simp; done) | (simp; omega) | (rw [mem_TH]; omega) | (rw [mem_TZ]; omega))
  have hy := hy.at hFx (by first | (simp; done) | (simp; omega) | (rw [mem_TH]; omega) | (rw [mem_TZ]; omega)) (by first | (simp; done) | (simp; omega) | (rw [mem_TH]; omega) | (rw [mem_TZ]; omega)) (by first | (simp; done) | (simp; omega) | (rw [mem_TH]; omega) | (rw [mem_TZ]; omega))
  have hff := ffO_lt (g := g) (n := n) 81 0 hn80 (Nat.zero_le _)
  refine s_bipush C 9 (-6) dX6_carryOut_7 rfl (by decide) ?_
  refine s_icmp_eq C 15 12 dX6_carryOut_9 (by decide) rfl (fun z9 => ?_) (fun z9 => ?_)
  · skip
    have hyes : ffO g n 81 0 = none := (oI_n (fun j hj => by have := hff j hj; omega)).mp z9
    refine s_aload_n C 16 dX6_carryOut_15 rfl rfl ?_
    refine s_getf C 19 dX6_carryOut_16 rfl f_X6_22 hZ rfl ?_
    refine s_aload_n C 20 dX6_carryOut_19 rfl rfl ?_
    refine s_getf C 23 dX6_carryOut_20 rfl f_X6_10 hZ rfl ?_
    refine s_invV C 26 320 5920 [] (hR_rv hh) dX6_carryOut_23 rfl m_X6_62 (c_save hh hs0 (by omega)) rfl rfl rfl ⟨by decide, by decide⟩ (Nat.le_of_ble_eq_true rfl) (by omega) (by omega) ?_
    rintro _ M2 ⟨rfl, hh9, hs9, hFh⟩
    dsimp only [Option.toList, List.cons_append, List.nil_append]
    have hZ := hFh.at hZ (by first | (simp; done) | (simp; omega) | (rw [mem_TH]; omega) | (rw [mem_TZ]; omega))
    have htr := htr.at hFh (by first | (simp; done) | (simp; omega) | (rw [mem_TH]; omega) | (rw [mem_TZ]; omega)) (by first | (simp; done) | (simp; omega) | (rw [mem_TH]; omega) | (rw [mem_TZ]; omega)) (fun j hj => by first | (simp; done) | (simp; omega) | (rw [mem_TH]; omega) | (rw [mem_TZ]; omega))
    have hx := hx.at hFh (by first | (simp; done) | (simp; omega) | (rw [mem_TH]; omega) | (rw [mem_TZ]; omega)) (by first | (simp; done) | (simp; omega) | (rw [mem_TH]; omega) | (rw [mem_TZ]; omega))
    have hk := hk.at hFh (by first | (simp; done) | (simp; omega) | (rw [mem_TH]; omega) | (rw [mem_TZ]; omega)) (by first | (simp; done) | (simp; omega) | (rw [mem_TH]; omega) | (rw [mem_TZ]; omega)) (by first | (simp; done) | (simp; omega) | (rw [mem_TH]; omega) | (rw [mem_TZ]; omega))
    have hy := hy.at hFh (by first | (simp; done) | (simp; omega) | (rw [mem_TH]; omega) | (rw [mem_TZ]; omega)) (by first | (simp; done) | (simp; omega) | (rw [mem_TH]; omega) | (rw [mem_TZ]; omega)) (by first | (simp; done) | (simp; omega) | (rw [mem_TH]; omega) | (rw [mem_TZ]; omega))
    have hh := hh9
    have hs0 := hs9
    refine s_aload_n C 27 dX6_carryOut_26 rfl rfl ?_
    refine s_getf C 30 dX6_carryOut_27 rfl f_X6_29 hZ rfl ?_
    refine s_invV C 33 320 5920 [] (xR_rv hx) dX6_carryOut_30 rfl m_X6_66 (c_rewind hx) rfl rfl rfl ⟨by decide, by decide⟩ (Nat.le_of_ble_eq_true rfl) (by omega) (by omega) ?_
    rintro _ M3 ⟨rfl, hx7, hFw⟩
    dsimp only [Option.toList, List.cons_append, List.nil_append]
    have hZ := hFw.at hZ (by first | (simp; done) | (simp; omega) | (rw [mem_TH]; omega) | (rw [mem_TZ]; omega))
    have hs0 := hs0.at hFw (by first | (simp; done) | (simp; omega) | (rw [mem_TH]; omega) | (rw [mem_TZ]; omega)) (by first | (simp; done) | (simp; omega) | (rw [mem_TH]; omega) | (rw [mem_TZ]; omega)) (fun j hj => by first | (simp; done) | (simp; omega) | (rw [mem_TH]; omega) | (rw [mem_TZ]; omega))
    have htr := htr.at hFw (by first | (simp; done) | (simp; omega) | (rw [mem_TH]; omega) | (rw [mem_TZ]; omega)) (by first | (simp; done) | (simp; omega) | (rw [mem_TH]; omega) | (rw [mem_TZ]; omega)) (fun j hj => by first | (simp; done) | (simp; omega) | (rw [mem_TH]; omega) | (rw [mem_TZ]; omega))
    have hh := hh.at hFw (by first | (simp; done) | (simp; omega) | (rw [mem_TH]; omega) | (rw [mem_TZ]; omega)) (by first | (simp; done) | (simp; omega) | (rw [mem_TH]; omega) | (rw [mem_TZ]; omega)) (by first | (simp; done) | (simp; omega) | (rw [mem_TH]; omega) | (rw [mem_TZ]; omega)) (fun t ht => by rw [mem_TH] at ht; first | (simp; done) | (simp; omega))
    have hk := hk.at hFw (by first | (simp; done) | (simp; omega) | (rw [mem_TH]; omega) | (rw [mem_TZ]; omega)) (by first | (simp; done) | (simp; omega) | (rw [mem_TH]; omega) | (rw [mem_TZ]; omega)) (by first | (simp; done) | (simp; omega) | (rw [mem_TH]; omega) | (rw [mem_TZ]; omega))
    have hy := hy.at hFw (by first | (simp; done) | (simp; omega) | (rw [mem_TH]; omega) | (rw [mem_TZ]; omega)) (by first | (simp; done) | (simp; omega) | (rw [mem_TH]; omega) | (rw [mem_TZ]; omega)) (by first | (simp; done) | (simp; omega) | (rw [mem_TH]; omega) | (rw [mem_TZ]; omega))
    have hx := hx7
    have hT0 : zT G M3 z (T, mo, od, ql, q, ln, fl, us) (min (c + 1) 6) (hPush (T, mo, od, ql, q, ln, fl, us) hs) n g 0 c2 v2 f2 t2 := ⟨s, tr, h, tx, rk, sy, hZ, hs0, ⟨_, htr⟩, hh, hx, ⟨_, _, _, hk⟩, ⟨_, _, _, _, _, hy⟩, hch⟩
    refine s_iconst C 34 (nI 0) dX6_carryOut_33 rfl (by decide) ?_
    refine s_istore_n C 35 dX6_carryOut_34 rfl rfl rfl ?_
    dsimp only [List.set]
    have hFa : mZ TZ M M3 := ((((hFx.mono (fun t ht => by first | (rw [mem_TH] at ht; rw [mem_TZ]; omega) | (simp at ht; done) | (rw [mem_TZ]; simp at ht; omega)))).tr (hFh.mono (fun t ht => by first | (rw [mem_TH] at ht; rw [mem_TZ]; omega) | (simp at ht; done) | (rw [mem_TZ]; simp at ht; omega)))).tr (hFw.mono (fun t ht => by first | (rw [mem_TH] at ht; rw [mem_TZ]; omega) | (simp at ht; done) | (rw [mem_TZ]; simp at ht; omega))))
    suffices lp35 : ∀ (fu35 : Nat) (d p : Nat) (T9 mo9 od9 ql9 : Nat) (q9 : Nat → Int32) (ln9 : Nat → Nat) (fl9 : Nat → Nat → Int32) (us9 : Nat → Int32) (c9 v9 : Int32) (f9 t9 : Nat) (M9 : mM), 81 - d < fu35 → d ≤ 80 → p ≤ n → coS g n 80 0 (T, mo, od, ql, q, ln, fl, us) 0 = coS g n (80 - d) p (T9, mo9, od9, ql9, q9, ln9, fl9, us9) d → zT G M9 z (T9, mo9, od9, ql9, q9, ln9, fl9, us9) (min (c + 1) 6) (hPush (T, mo, od, ql, q, ln, fl, us) hs) n g p c9 v9 f9 t9 → mZ TZ M M9 → V X (4 * (80 - d)) (74 * (80 - d)) 35 [some (.ref z), some (.int (nI d))] [] M9 from lp35 82 0 0 _ _ _ _ _ _ _ _ _ _ _ _ _ (by omega) (by omega) (Nat.zero_le _) rfl hT0 hFa
    intro fu35
    induction fu35 with
    | zero => intro d p T9 mo9 od9 ql9 q9 ln9 fl9 us9 c9 v9 f9 t9 M9 hd0 hd hp hco hz hF; omega
    | succ fu35 ih35 =>
      intro d p T9 mo9 od9 ql9 q9 ln9 fl9 us9 c9 v9 f9 t9 M9 hd0 hd hp hco hz hF
      obtain ⟨s, tr, h, tx, rk, sy, hZ, hs0, ⟨yt, htr⟩, hh, hx, ⟨rc, rr, rp, hk⟩, ⟨y1, y2, y3, y4, yw, hy⟩, hch⟩ := hz
      refine s_iload_n C 36 dX6_carryOut_35 rfl rfl ?_
      refine s_bipush C 38 (nI 80) dX6_carryOut_36 rfl (by decide) ?_
      refine s_icmp_geN C 74 41 dX6_carryOut_38 (by decide) rfl (by omega) (by omega) (fun z38 => ?_) (fun z38 => ?_)
      · skip
        have hco9 : coS g n 80 0 (T, mo, od, ql, q, ln, fl, us) 0 = ((T9, mo9, od9, ql9, q9, ln9, fl9, us9), d) := by rw [hco, show 80 - d = 0 by omega]; rfl
        have hF5 := hF
        refine s_aload_n C 75 dX6_carryOut_74 rfl rfl ?_
        refine s_getf C 78 dX6_carryOut_75 rfl f_X6_29 hZ rfl ?_
        refine s_invV C 81 (4 * (80 - d)) (74 * (80 - d)) [] (xR_rv hx) dX6_carryOut_78 rfl m_X6_55 (c_makeEmpty hx) rfl rfl rfl ⟨by decide, by decide⟩ (Nat.le_of_ble_eq_true rfl) (by omega) (by omega) ?_
        rintro _ M4 ⟨rfl, hx5, hFm⟩
        dsimp only [Option.toList, List.cons_append, List.nil_append]
        have hZ := hFm.at hZ (by first | (simp; done) | (simp; omega) | (rw [mem_TH]; omega) | (rw [mem_TZ]; omega))
        have hs0 := hs0.at hFm (by first | (simp; done) | (simp; omega) | (rw [mem_TH]; omega) | (rw [mem_TZ]; omega)) (by first | (simp; done) | (simp; omega) | (rw [mem_TH]; omega) | (rw [mem_TZ]; omega)) (fun j hj => by first | (simp; done) | (simp; omega) | (rw [mem_TH]; omega) | (rw [mem_TZ]; omega))
        have htr := htr.at hFm (by first | (simp; done) | (simp; omega) | (rw [mem_TH]; omega) | (rw [mem_TZ]; omega)) (by first | (simp; done) | (simp; omega) | (rw [mem_TH]; omega) | (rw [mem_TZ]; omega)) (fun j hj => by first | (simp; done) | (simp; omega) | (rw [mem_TH]; omega) | (rw [mem_TZ]; omega))
        have hh := hh.at hFm (by first | (simp; done) | (simp; omega) | (rw [mem_TH]; omega) | (rw [mem_TZ]; omega)) (by first | (simp; done) | (simp; omega) | (rw [mem_TH]; omega) | (rw [mem_TZ]; omega)) (by first | (simp; done) | (simp; omega) | (rw [mem_TH]; omega) | (rw [mem_TZ]; omega)) (fun t ht => by rw [mem_TH] at ht; first | (simp; done) | (simp; omega))
        have hk := hk.at hFm (by first | (simp; done) | (simp; omega) | (rw [mem_TH]; omega) | (rw [mem_TZ]; omega)) (by first | (simp; done) | (simp; omega) | (rw [mem_TH]; omega) | (rw [mem_TZ]; omega)) (by first | (simp; done) | (simp; omega) | (rw [mem_TH]; omega) | (rw [mem_TZ]; omega))
        have hy := hy.at hFm (by first | (simp; done) | (simp; omega) | (rw [mem_TH]; omega) | (rw [mem_TZ]; omega)) (by first | (simp; done) | (simp; omega) | (rw [mem_TH]; omega) | (rw [mem_TZ]; omega)) (by first | (simp; done) | (simp; omega) | (rw [mem_TH]; omega) | (rw [mem_TZ]; omega))
        have hx := hx5
        have hF6 := hF5.tr (hFm.mono (fun t ht => by first | (rw [mem_TH] at ht; rw [mem_TZ]; omega) | (simp at ht; done) | (rw [mem_TZ]; simp at ht; omega)))
        have hz6 : zR G M4 z (T9, mo9, od9, ql9, q9, ln9, fl9, us9) (min (c + 1) 6) (hPush (T, mo, od, ql, q, ln, fl, us) hs) 0 g := ⟨_, _, _, _, _, _, _, s, tr, h, tx, rk, sy, hZ, hs0, ⟨_, htr⟩, hh, ⟨_, _, _, _, _, hx⟩, hk, ⟨_, hy⟩, (fun k hk => absurd hk (Nat.not_lt_zero _))⟩
        refine s_iload_n C 82 dX6_carryOut_81 rfl rfl ?_
        exact s_iret C dX6_carryOut_82 Tr rfl ⟨by rw [if_pos hyes, hco9], by rw [if_pos hyes, if_pos hyes, if_pos hyes, if_pos hyes, hco9]; exact hz6, hF6⟩
      · skip
        refine s_aload_n C 42 dX6_carryOut_41 rfl rfl ?_
        refine s_getf C 45 dX6_carryOut_42 rfl f_X6_29 hZ rfl ?_
        refine s_invV C 48 (4 * (80 - d)) (74 * (80 - d)) [] (xR_rv hx) dX6_carryOut_45 rfl m_X6_69 (c_passCommand hx hp) rfl rfl rfl ⟨by decide, by decide⟩ (Nat.le_of_ble_eq_true rfl) (by omega) (by omega) ?_
        rintro _ M5 ⟨rfl, hx8, hFx⟩
        dsimp only [Option.toList, List.cons_append, List.nil_append]
        obtain ⟨v8, f8, t8, hx, hcv⟩ := hx8
        have hZ := hFx.at hZ (by first | (simp; done) | (simp; omega) | (rw [mem_TH]; omega) | (rw [mem_TZ]; omega))
        have hs0 := hs0.at hFx (by first | (simp; done) | (simp; omega) | (rw [mem_TH]; omega) | (rw [mem_TZ]; omega)) (by first | (simp; done) | (simp; omega) | (rw [mem_TH]; omega) | (rw [mem_TZ]; omega)) (fun j hj => by first | (simp; done) | (simp; omega) | (rw [mem_TH]; omega) | (rw [mem_TZ]; omega))
        have htr := htr.at hFx (by first | (simp; done) | (simp; omega) | (rw [mem_TH]; omega) | (rw [mem_TZ]; omega)) (by first | (simp; done) | (simp; omega) | (rw [mem_TH]; omega) | (rw [mem_TZ]; omega)) (fun j hj => by first | (simp; done) | (simp; omega) | (rw [mem_TH]; omega) | (rw [mem_TZ]; omega))
        have hh := hh.at hFx (by first | (simp; done) | (simp; omega) | (rw [mem_TH]; omega) | (rw [mem_TZ]; omega)) (by first | (simp; done) | (simp; omega) | (rw [mem_TH]; omega) | (rw [mem_TZ]; omega)) (by first | (simp; done) | (simp; omega) | (rw [mem_TH]; omega) | (rw [mem_TZ]; omega)) (fun t ht => by rw [mem_TH] at ht; first | (simp; done) | (simp; omega))
        have hk := hk.at hFx (by first | (simp; done) | (simp; omega) | (rw [mem_TH]; omega) | (rw [mem_TZ]; omega)) (by first | (simp; done) | (simp; omega) | (rw [mem_TH]; omega) | (rw [mem_TZ]; omega)) (by first | (simp; done) | (simp; omega) | (rw [mem_TH]; omega) | (rw [mem_TZ]; omega))
        have hy := hy.at hFx (by first | (simp; done) | (simp; omega) | (rw [mem_TH]; omega) | (rw [mem_TZ]; omega)) (by first | (simp; done) | (simp; omega) | (rw [mem_TH]; omega) | (rw [mem_TZ]; omega)) (by first | (simp; done) | (simp; omega) | (rw [mem_TH]; omega) | (rw [mem_TZ]; omega))
        have hF1 := hF.tr (hFx.mono (fun t ht => by first | (rw [mem_TH] at ht; rw [mem_TZ]; omega) | (simp at ht; done) | (rw [mem_TZ]; simp at ht; omega)))
        refine s_if_eqB C 74 51 dX6_carryOut_48 (by decide) rfl (fun z48 => ?_) (fun z48 => ?_)
        · skip
          have hco9 : coS g n 80 0 (T, mo, od, ql, q, ln, fl, us) 0 = ((T9, mo9, od9, ql9, q9, ln9, fl9, us9), d) := by rw [hco]; exact coS_no z48
          have hF5 := hF1
          have hx := hx
          refine s_aload_n C 75 dX6_carryOut_74 rfl rfl ?_
          refine s_getf C 78 dX6_carryOut_75 rfl f_X6_29 hZ rfl ?_
          refine s_invV C 81 (4 * (80 - d)) (74 * (80 - d)) [] (xR_rv hx) dX6_carryOut_78 rfl m_X6_55 (c_makeEmpty hx) rfl rfl rfl ⟨by decide, by decide⟩ (Nat.le_of_ble_eq_true rfl) (by omega) (by omega) ?_
          rintro _ M6 ⟨rfl, hx5, hFm⟩
          dsimp only [Option.toList, List.cons_append, List.nil_append]
          have hZ := hFm.at hZ (by first | (simp; done) | (simp; omega) | (rw [mem_TH]; omega) | (rw [mem_TZ]; omega))
          have hs0 := hs0.at hFm (by first | (simp; done) | (simp; omega) | (rw [mem_TH]; omega) | (rw [mem_TZ]; omega)) (by first | (simp; done) | (simp; omega) | (rw [mem_TH]; omega) | (rw [mem_TZ]; omega)) (fun j hj => by first | (simp; done) | (simp; omega) | (rw [mem_TH]; omega) | (rw [mem_TZ]; omega))
          have htr := htr.at hFm (by first | (simp; done) | (simp; omega) | (rw [mem_TH]; omega) | (rw [mem_TZ]; omega)) (by first | (simp; done) | (simp; omega) | (rw [mem_TH]; omega) | (rw [mem_TZ]; omega)) (fun j hj => by first | (simp; done) | (simp; omega) | (rw [mem_TH]; omega) | (rw [mem_TZ]; omega))
          have hh := hh.at hFm (by first | (simp; done) | (simp; omega) | (rw [mem_TH]; omega) | (rw [mem_TZ]; omega)) (by first | (simp; done) | (simp; omega) | (rw [mem_TH]; omega) | (rw [mem_TZ]; omega)) (by first | (simp; done) | (simp; omega) | (rw [mem_TH]; omega) | (rw [mem_TZ]; omega)) (fun t ht => by rw [mem_TH] at ht; first | (simp; done) | (simp; omega))
          have hk := hk.at hFm (by first | (simp; done) | (simp; omega) | (rw [mem_TH]; omega) | (rw [mem_TZ]; omega)) (by first | (simp; done) | (simp; omega) | (rw [mem_TH]; omega) | (rw [mem_TZ]; omega)) (by first | (simp; done) | (simp; omega) | (rw [mem_TH]; omega) | (rw [mem_TZ]; omega))
          have hy := hy.at hFm (by first | (simp; done) | (simp; omega) | (rw [mem_TH]; omega) | (rw [mem_TZ]; omega)) (by first | (simp; done) | (simp; omega) | (rw [mem_TH]; omega) | (rw [mem_TZ]; omega)) (by first | (simp; done) | (simp; omega) | (rw [mem_TH]; omega) | (rw [mem_TZ]; omega))
          have hx := hx5
          have hF6 := hF5.tr (hFm.mono (fun t ht => by first | (rw [mem_TH] at ht; rw [mem_TZ]; omega) | (simp at ht; done) | (rw [mem_TZ]; simp at ht; omega)))
          have hz6 : zR G M6 z (T9, mo9, od9, ql9, q9, ln9, fl9, us9) (min (c + 1) 6) (hPush (T, mo, od, ql, q, ln, fl, us) hs) 0 g := ⟨_, _, _, _, _, _, _, s, tr, h, tx, rk, sy, hZ, hs0, ⟨_, htr⟩, hh, ⟨_, _, _, _, _, hx⟩, hk, ⟨_, hy⟩, (fun k hk => absurd hk (Nat.not_lt_zero _))⟩
          refine s_iload_n C 82 dX6_carryOut_81 rfl rfl ?_
          exact s_iret C dX6_carryOut_82 Tr rfl ⟨by rw [if_pos hyes, hco9], by rw [if_pos hyes, if_pos hyes, if_pos hyes, if_pos hyes, hco9]; exact hz6, hF6⟩
        · skip
          have hok := z48
          have hcv := hcv hok
          obtain ⟨k, hK, hk7⟩ := cmO_k hp hok
          rw [hK] at hx
          obtain ⟨hcv1, hcv2⟩ := cm_cv hK hcv
          have hcb := cmV_lim hp hK
          have hT2 : zT G M5 z (T9, mo9, od9, ql9, q9, ln9, fl9, us9) (min (c + 1) 6) (hPush (T, mo, od, ql, q, ln, fl, us) hs) n g (cmA g n p) (nI k) v8 f8 t8 := ⟨s, tr, h, tx, rk, sy, hZ, hs0, ⟨_, htr⟩, hh, hx, ⟨_, _, _, hk⟩, ⟨_, _, _, _, _, hy⟩, hch⟩
          have hxx : obX (T9, mo9, od9, ql9, q9, ln9, fl9, us9) k (cmV g n p) f8 t8 g = obX (T9, mo9, od9, ql9, q9, ln9, fl9, us9) ((cmK g n p).getD 7) (cmV g n p) (cmP g n p) (cmA g n p) g := by rw [hK]; exact obX_c hcv2
          refine s_aload_n C 52 dX6_carryOut_51 rfl rfl ?_
          refine s_invV C 55 (4 * (80 - (d + 1))) (74 * (80 - (d + 1))) [] (zR_rv hT2.R) dX6_carryOut_52 rfl m_X6_73 (z_obeyed hT2 hk7 hcv1 hcb.1 hcb.2.1 hcb.2.2 (fun q => by obtain ⟨e1, e2⟩ := hcv2 q; rw [e1, e2]; exact cm_title hp hok hK q)) rfl rfl rfl ⟨by decide, by decide⟩ (Nat.le_of_ble_eq_true rfl) (by omega) (by omega) ?_
          rintro _ M7 ⟨rfl, ⟨v7, hT3⟩, hF2⟩
          dsimp only [Option.toList, List.cons_append, List.nil_append]
          rw [hxx] at hT3
          rw [hxx]
          have hF3 := hF1.tr hF2
          refine s_if_eqB C 74 58 dX6_carryOut_55 (by decide) rfl (fun z55 => ?_) (fun z55 => ?_)
          · skip
            have hob : obX (T9, mo9, od9, ql9, q9, ln9, fl9, us9) ((cmK g n p).getD 7) (cmV g n p) (cmP g n p) (cmA g n p) g = none := by simpa using z55
            rw [hob] at hT3
            have hco9 : coS g n 80 0 (T, mo, od, ql, q, ln, fl, us) 0 = ((T9, mo9, od9, ql9, q9, ln9, fl9, us9), d) := by rw [hco]; exact coS_none hob
            have hT5 := hT3
            have hF5 := hF3
            have hz := hT5
            obtain ⟨s, tr, h, tx, rk, sy, hZ, hs0, ⟨yt, htr⟩, hh, hx, ⟨rc, rr, rp, hk⟩, ⟨y1, y2, y3, y4, yw, hy⟩, hch⟩ := hz
            refine s_aload_n C 75 dX6_carryOut_74 rfl rfl ?_
            refine s_getf C 78 dX6_carryOut_75 rfl f_X6_29 hZ rfl ?_
            refine s_invV C 81 (4 * (80 - (d + 1))) (74 * (80 - (d + 1))) [] (xR_rv hx) dX6_carryOut_78 rfl m_X6_55 (c_makeEmpty hx) rfl rfl rfl ⟨by decide, by decide⟩ (Nat.le_of_ble_eq_true rfl) (by omega) (by omega) ?_
            rintro _ M8 ⟨rfl, hx5, hFm⟩
            dsimp only [Option.toList, List.cons_append, List.nil_append]
            have hZ := hFm.at hZ (by first | (simp; done) | (simp; omega) | (rw [mem_TH]; omega) | (rw [mem_TZ]; omega))
            have hs0 := hs0.at hFm (by first | (simp; done) | (simp; omega) | (rw [mem_TH]; omega) | (rw [mem_TZ]; omega)) (by first | (simp; done) | (simp; omega) | (rw [mem_TH]; omega) | (rw [mem_TZ]; omega)) (fun j hj => by first | (simp; done) | (simp; omega) | (rw [mem_TH]; omega) | (rw [mem_TZ]; omega))
            have htr := htr.at hFm (by first | (simp; done) | (simp; omega) | (rw [mem_TH]; omega) | (rw [mem_TZ]; omega)) (by first | (simp; done) | (simp; omega) | (rw [mem_TH]; omega) | (rw [mem_TZ]; omega)) (fun j hj => by first | (simp; done) | (simp; omega) | (rw [mem_TH]; omega) | (rw [mem_TZ]; omega))
            have hh := hh.at hFm (by first | (simp; done) | (simp; omega) | (rw [mem_TH]; omega) | (rw [mem_TZ]; omega)) (by first | (simp; done) | (simp; omega) | (rw [mem_TH]; omega) | (rw [mem_TZ]; omega)) (by first | (simp; done) | (simp; omega) | (rw [mem_TH]; omega) | (rw [mem_TZ]; omega)) (fun t ht => by rw [mem_TH] at ht; first | (simp; done) | (simp; omega))
            have hk := hk.at hFm (by first | (simp; done) | (simp; omega) | (rw [mem_TH]; omega) | (rw [mem_TZ]; omega)) (by first | (simp; done) | (simp; omega) | (rw [mem_TH]; omega) | (rw [mem_TZ]; omega)) (by first | (simp; done) | (simp; omega) | (rw [mem_TH]; omega) | (rw [mem_TZ]; omega))
            have hy := hy.at hFm (by first | (simp; done) | (simp; omega) | (rw [mem_TH]; omega) | (rw [mem_TZ]; omega)) (by first | (simp; done) | (simp; omega) | (rw [mem_TH]; omega) | (rw [mem_TZ]; omega)) (by first | (simp; done) | (simp; omega) | (rw [mem_TH]; omega) | (rw [mem_TZ]; omega))
            have hx := hx5
            have hF6 := hF5.tr (hFm.mono (fun t ht => by first | (rw [mem_TH] at ht; rw [mem_TZ]; omega) | (simp at ht; done) | (rw [mem_TZ]; simp at ht; omega)))
            have hz6 : zR G M8 z (T9, mo9, od9, ql9, q9, ln9, fl9, us9) (min (c + 1) 6) (hPush (T, mo, od, ql, q, ln, fl, us) hs) 0 g := ⟨_, _, _, _, _, _, _, s, tr, h, tx, rk, sy, hZ, hs0, ⟨_, htr⟩, hh, ⟨_, _, _, _, _, hx⟩, hk, ⟨_, hy⟩, (fun k hk => absurd hk (Nat.not_lt_zero _))⟩
            refine s_iload_n C 82 dX6_carryOut_81 rfl rfl ?_
            exact s_iret C dX6_carryOut_82 Tr rfl ⟨by rw [if_pos hyes, hco9], by rw [if_pos hyes, if_pos hyes, if_pos hyes, if_pos hyes, hco9]; exact hz6, hF6⟩
          · skip
            obtain ⟨y9, hob⟩ := Option.isSome_iff_exists.mp z55
            rw [hob] at hT3
            obtain ⟨T9, mo9, od9, ql9, q9, ln9, fl9, us9⟩ := y9
            have hz := hT3
            obtain ⟨s, tr, h, tx, rk, sy, hZ, hs0, ⟨yt, htr⟩, hh, hx, ⟨rc, rr, rp, hk⟩, ⟨y1, y2, y3, y4, yw, hy⟩, hch⟩ := hz
            refine s_iinc C 61 (nI (d + 1)) dX6_carryOut_58 rfl rfl (by rw [← nI_add]; rfl) rfl ?_
            dsimp only [List.set]
            refine s_aload_n C 62 dX6_carryOut_61 rfl rfl ?_
            refine s_getf C 65 dX6_carryOut_62 rfl f_X6_29 hZ rfl ?_
            refine s_invV C 68 (4 * (80 - (d + 1))) (74 * (80 - (d + 1))) [] (xR_rv hx) dX6_carryOut_65 rfl m_X6_76 (c_semi hx (by have := (cmA_le (g := g) hp).2; omega)) rfl rfl rfl ⟨by decide, by decide⟩ (Nat.le_of_ble_eq_true rfl) (by omega) (by omega) ?_
            rintro _ M9 ⟨rfl, hx6, hFe⟩
            dsimp only [Option.toList, List.cons_append, List.nil_append]
            have hZ := hFe.at hZ (by first | (simp; done) | (simp; omega) | (rw [mem_TH]; omega) | (rw [mem_TZ]; omega))
            have hs0 := hs0.at hFe (by first | (simp; done) | (simp; omega) | (rw [mem_TH]; omega) | (rw [mem_TZ]; omega)) (by first | (simp; done) | (simp; omega) | (rw [mem_TH]; omega) | (rw [mem_TZ]; omega)) (fun j hj => by first | (simp; done) | (simp; omega) | (rw [mem_TH]; omega) | (rw [mem_TZ]; omega))
            have htr := htr.at hFe (by first | (simp; done) | (simp; omega) | (rw [mem_TH]; omega) | (rw [mem_TZ]; omega)) (by first | (simp; done) | (simp; omega) | (rw [mem_TH]; omega) | (rw [mem_TZ]; omega)) (fun j hj => by first | (simp; done) | (simp; omega) | (rw [mem_TH]; omega) | (rw [mem_TZ]; omega))
            have hh := hh.at hFe (by first | (simp; done) | (simp; omega) | (rw [mem_TH]; omega) | (rw [mem_TZ]; omega)) (by first | (simp; done) | (simp; omega) | (rw [mem_TH]; omega) | (rw [mem_TZ]; omega)) (by first | (simp; done) | (simp; omega) | (rw [mem_TH]; omega) | (rw [mem_TZ]; omega)) (fun t ht => by rw [mem_TH] at ht; first | (simp; done) | (simp; omega))
            have hk := hk.at hFe (by first | (simp; done) | (simp; omega) | (rw [mem_TH]; omega) | (rw [mem_TZ]; omega)) (by first | (simp; done) | (simp; omega) | (rw [mem_TH]; omega) | (rw [mem_TZ]; omega)) (by first | (simp; done) | (simp; omega) | (rw [mem_TH]; omega) | (rw [mem_TZ]; omega))
            have hy := hy.at hFe (by first | (simp; done) | (simp; omega) | (rw [mem_TH]; omega) | (rw [mem_TZ]; omega)) (by first | (simp; done) | (simp; omega) | (rw [mem_TH]; omega) | (rw [mem_TZ]; omega)) (by first | (simp; done) | (simp; omega) | (rw [mem_TH]; omega) | (rw [mem_TZ]; omega))
            have hx := hx6
            have hF4 := hF3.tr (hFe.mono (fun t ht => by first | (rw [mem_TH] at ht; rw [mem_TZ]; omega) | (simp at ht; done) | (rw [mem_TZ]; simp at ht; omega)))
            have hT4 : zT G M9 z (T9, mo9, od9, ql9, q9, ln9, fl9, us9) (min (c + 1) 6) (hPush (T, mo, od, ql, q, ln, fl, us) hs) n g (if scB g n (cmA g n p) = true then cmA g n p + 1 else cmA g n p) (nI k) v7 f8 t8 := ⟨s, tr, h, tx, rk, sy, hZ, hs0, ⟨_, htr⟩, hh, hx, ⟨_, _, _, hk⟩, ⟨_, _, _, _, _, hy⟩, hch⟩
            refine s_if_neB C 35 71 dX6_carryOut_68 (by decide) rfl (fun z68 => ?_) (fun z68 => ?_)
            · skip
              have zsc := z68
              rw [if_pos zsc] at hT4
              have hle1 : cmA g n p + 1 ≤ n := by unfold scB at zsc; have := (of_decide_eq_true zsc).1; omega
              exact ih35 (d + 1) _ _ _ _ _ _ _ _ _ _ _ _ _ _ (by omega) (by omega) hle1 (by rw [hco, show 80 - d = (80 - (d + 1)) + 1 by omega]; exact coS_next hok hob zsc) hT4 hF4
            · skip
              have zsc := z68
              have hco9 : coS g n 80 0 (T, mo, od, ql, q, ln, fl, us) 0 = ((T9, mo9, od9, ql9, q9, ln9, fl9, us9), d + 1) := by rw [hco, show 80 - d = (80 - (d + 1)) + 1 by omega]; exact coS_last hok hob zsc
              have hT5 := hT4
              have hF5 := hF4
              have hz := hT5
              obtain ⟨s, tr, h, tx, rk, sy, hZ, hs0, ⟨yt, htr⟩, hh, hx, ⟨rc, rr, rp, hk⟩, ⟨y1, y2, y3, y4, yw, hy⟩, hch⟩ := hz
              refine s_goto C 74 dX6_carryOut_71 (by decide) ?_
              refine s_aload_n C 75 dX6_carryOut_74 rfl rfl ?_
              refine s_getf C 78 dX6_carryOut_75 rfl f_X6_29 hZ rfl ?_
              refine s_invV C 81 (4 * (80 - (d + 1))) (74 * (80 - (d + 1))) [] (xR_rv hx) dX6_carryOut_78 rfl m_X6_55 (c_makeEmpty hx) rfl rfl rfl ⟨by decide, by decide⟩ (Nat.le_of_ble_eq_true rfl) (by omega) (by omega) ?_
              rintro _ M10 ⟨rfl, hx5, hFm⟩
              dsimp only [Option.toList, List.cons_append, List.nil_append]
              have hZ := hFm.at hZ (by first | (simp; done) | (simp; omega) | (rw [mem_TH]; omega) | (rw [mem_TZ]; omega))
              have hs0 := hs0.at hFm (by first | (simp; done) | (simp; omega) | (rw [mem_TH]; omega) | (rw [mem_TZ]; omega)) (by first | (simp; done) | (simp; omega) | (rw [mem_TH]; omega) | (rw [mem_TZ]; omega)) (fun j hj => by first | (simp; done) | (simp; omega) | (rw [mem_TH]; omega) | (rw [mem_TZ]; omega))
              have htr := htr.at hFm (by first | (simp; done) | (simp; omega) | (rw [mem_TH]; omega) | (rw [mem_TZ]; omega)) (by first | (simp; done) | (simp; omega) | (rw [mem_TH]; omega) | (rw [mem_TZ]; omega)) (fun j hj => by first | (simp; done) | (simp; omega) | (rw [mem_TH]; omega) | (rw [mem_TZ]; omega))
              have hh := hh.at hFm (by first | (simp; done) | (simp; omega) | (rw [mem_TH]; omega) | (rw [mem_TZ]; omega)) (by first | (simp; done) | (simp; omega) | (rw [mem_TH]; omega) | (rw [mem_TZ]; omega)) (by first | (simp; done) | (simp; omega) | (rw [mem_TH]; omega) | (rw [mem_TZ]; omega)) (fun t ht => by rw [mem_TH] at ht; first | (simp; done) | (simp; omega))
              have hk := hk.at hFm (by first | (simp; done) | (simp; omega) | (rw [mem_TH]; omega) | (rw [mem_TZ]; omega)) (by first | (simp; done) | (simp; omega) | (rw [mem_TH]; omega) | (rw [mem_TZ]; omega)) (by first | (simp; done) | (simp; omega) | (rw [mem_TH]; omega) | (rw [mem_TZ]; omega))
              have hy := hy.at hFm (by first | (simp; done) | (simp; omega) | (rw [mem_TH]; omega) | (rw [mem_TZ]; omega)) (by first | (simp; done) | (simp; omega) | (rw [mem_TH]; omega) | (rw [mem_TZ]; omega)) (by first | (simp; done) | (simp; omega) | (rw [mem_TH]; omega) | (rw [mem_TZ]; omega))
              have hx := hx5
              have hF6 := hF5.tr (hFm.mono (fun t ht => by first | (rw [mem_TH] at ht; rw [mem_TZ]; omega) | (simp at ht; done) | (rw [mem_TZ]; simp at ht; omega)))
              have hz6 : zR G M10 z (T9, mo9, od9, ql9, q9, ln9, fl9, us9) (min (c + 1) 6) (hPush (T, mo, od, ql, q, ln, fl, us) hs) 0 g := ⟨_, _, _, _, _, _, _, s, tr, h, tx, rk, sy, hZ, hs0, ⟨_, htr⟩, hh, ⟨_, _, _, _, _, hx⟩, hk, ⟨_, hy⟩, (fun k hk => absurd hk (Nat.not_lt_zero _))⟩
              refine s_iload_n C 82 dX6_carryOut_81 rfl rfl ?_
              exact s_iret C dX6_carryOut_82 Tr rfl ⟨by rw [if_pos hyes, hco9], by rw [if_pos hyes, if_pos hyes, if_pos hyes, if_pos hyes, hco9]; exact hz6, hF6⟩
  · skip
    have hno : ¬ ffO g n 81 0 = none := fun w => z9 (by rw [w]; rfl)
    refine s_bipush C 14 (-5) dX6_carryOut_12 rfl (by decide) ?_
    exact s_iret C dX6_carryOut_14 Tr rfl ⟨by rw [if_neg hno], by rw [if_neg hno, if_neg hno, if_neg hno, if_neg hno]; exact ⟨_, _, _, _, _, _, _, s, tr, h, tx, rk, sy, hZ, hs0, ⟨_, htr⟩, hh, ⟨_, _, _, _, _, hx⟩, hk, ⟨_, hy⟩, hch⟩, (hFx.mono (fun t ht => by first | (rw [mem_TH] at ht; rw [mem_TZ]; omega) | (simp at ht; done) | (rw [mem_TZ]; simp at ht; omega)))⟩
