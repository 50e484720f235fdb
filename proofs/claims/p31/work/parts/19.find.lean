/-! the finder's cells -/
def TZ : List Nat := (List.range 198).map (fun i => 2 + i)
theorem mem_TZ {t : Nat} : t ∈ TZ ↔ 2 ≤ t ∧ t < 200 := by
  unfold TZ
  simp only [List.mem_map, List.mem_range]
  exact ⟨fun ⟨i, hi, h⟩ => by omega, fun h => ⟨t - 2, by omega, by omega⟩⟩
def zA (G : mG) (M : mM) (z : Nat) (x : mSt) (c : Nat) (hs : Nat → mSt) (n : Nat) (g : Nat → Int32) (rc : Nat) (rr rp : Nat → Nat) (y1 y2 y3 y4 : Nat) : Prop := ∃ s tr h tx rk sy, M z = some (6, .inl (7, [.ref s, .ref tr, .ref h, .ref tx, .ref rk, .ref sy])) ∧ sS G M 0 s x ∧ (∃ y, sS G M 1 tr y) ∧ hR G M h c hs ∧ (∃ p cmd val fr to, xR M tx n p cmd val fr to g) ∧ kR M rk rc rr rp ∧ (∃ yw, yR M sy y1 y2 y3 y4 yw) ∧ ∀ k, k < n → vp_nar .char (g k) = g k
def zR (G : mG) (M : mM) (z : Nat) (x : mSt) (c : Nat) (hs : Nat → mSt) (n : Nat) (g : Nat → Int32) : Prop := ∃ rc rr rp y1 y2 y3 y4, zA G M z x c hs n g rc rr rp y1 y2 y3 y4
theorem zA.R {G : mG} {M : mM} {z : Nat} {x : mSt} {c : Nat} {hs : Nat → mSt} {n : Nat} {g : Nat → Int32} {rc : Nat} {rr rp : Nat → Nat} {y1 y2 y3 y4 : Nat} (h : zA G M z x c hs n g rc rr rp y1 y2 y3 y4) : zR G M z x c hs n g := ⟨_, _, _, _, _, _, _, h⟩
theorem zA_rv {G : mG} {M : mM} {z : Nat} {x : mSt} {c : Nat} {hs : Nat → mSt} {n : Nat} {g : Nat → Int32} {rc : Nat} {rr rp : Nat → Nat} {y1 y2 y3 y4 : Nat} (h : zA G M z x c hs n g rc rr rp y1 y2 y3 y4) : mRv G M RX6 z := by
  obtain ⟨s, tr, h, tx, rk, sy, h1, -⟩ := h
  exact mRv_of h1 rfl
theorem zR_rv {G : mG} {M : mM} {z : Nat} {x : mSt} {c : Nat} {hs : Nat → mSt} {n : Nat} {g : Nat → Int32} (h : zR G M z x c hs n g) : mRv G M RX6 z := by
  obtain ⟨_, _, _, _, _, _, _, h⟩ := h
  exact zA_rv h
theorem sS.get {G : mG} {M : mM} {k s T mo od ql : Nat} {q : Nat → Int32} {ln : Nat → Nat} {fl : Nat → Nat → Int32} {us : Nat → Int32} (h : sS G M k s (T, mo, od, ql, q, ln, fl, us)) : ∃ q9, (∀ y, y < ql → q9 y = q y) ∧ (∀ y, y < 24 → vp_nar .char (q9 y) = q9 y) ∧ sR G M k s T mo od ql q9 ln fl us := h
theorem sS.mk {G : mG} {M : mM} {k s T mo od ql : Nat} {q q9 : Nat → Int32} {ln : Nat → Nat} {fl : Nat → Nat → Int32} {us : Nat → Int32} (h1 : ∀ y, y < ql → q9 y = q y) (h2 : ∀ y, y < 24 → vp_nar .char (q9 y) = q9 y) (h3 : sR G M k s T mo od ql q9 ln fl us) : sS G M k s (T, mo, od, ql, q, ln, fl, us) := ⟨q9, h1, h2, h3⟩
theorem sR_rv0 {G : mG} {M : mM} {k s T mo od ql : Nat} {q : Nat → Int32} {ln : Nat → Nat} {fl : Nat → Nat → Int32} {us : Nat → Int32} (h : sS G M k s (T, mo, od, ql, q, ln, fl, us)) : mRv G M RX2 s := sS_rv h
theorem qcN_q {ql : Nat} {q q' : Nat → Int32} (h : ∀ y, y < ql → q y = q' y) : qeB ql q = qeB ql q' ∧ qcN ql q = qcN ql q' := by
  have h1 : qeB ql q = qeB ql q' := by
    unfold qeB
    refine decide_eq_decide.mpr ⟨fun ⟨a, b⟩ => ⟨a, by rw [← h _ (by omega)]; exact b⟩, fun ⟨a, b⟩ => ⟨a, by rw [h _ (by omega)]; exact b⟩⟩
  exact ⟨h1, by unfold qcN; rw [h1]⟩
theorem qcN_le {ql : Nat} {q : Nat → Int32} : qcN ql q ≤ ql := by
  unfold qcN
  split <;> omega
theorem pmO_q {mo ql n : Nat} {q q' f : Nat → Int32} (h : ∀ y, y < ql → q y = q' y) : pmO mo ql q n f = pmO mo ql q' n f := by
  have h1 := (qcN_q h).2
  have h2 := qcN_le (ql := ql) (q := q')
  unfold pmO
  rw [h1, plc_q (q := q) (q' := q') (fun x hx => h x (by omega))]
theorem rkN_q {T mo od ql t : Nat} {q q' : Nat → Int32} {ln : Nat → Nat} {fl : Nat → Nat → Int32} {us : Nat → Int32} (h : ∀ y, y < ql → q y = q' y) : rkN T mo od ql q ln fl us t = rkN T mo od ql q' ln fl us t := by
  unfold rkN
  have e : ∀ x, pmO mo ql q (ln x) (fl x) = pmO mo ql q' (ln x) (fl x) := fun x => pmO_q h
  simp only [e]
theorem plN_q {mo ql t : Nat} {q q' : Nat → Int32} {ln : Nat → Nat} {fl : Nat → Nat → Int32} (h : ∀ y, y < ql → q y = q' y) : plN mo ql q ln fl t = plN mo ql q' ln fl t := by
  unfold plN
  rw [pmO_q h]
/-- the key and the best shortcut of a title -/
def kyN (T mo : Nat) (ln : Nat → Nat) (fl : Nat → Nat → Int32) (t : Nat) : Nat × Nat := bst (pKb T mo ln fl t)
def shN (T mo od : Nat) (ln : Nat → Nat) (fl : Nat → Nat → Int32) (us : Nat → Int32) (t : Nat) : Nat × Nat := bst (pSb T mo od ln fl us t)
theorem kyN_of {T mo t ks kl : Nat} {ln : Nat → Nat} {fl : Nat → Nat → Int32} (h : bsR (bPR (pKb T mo ln fl t)) dT ks kl) (hv : TV (ln t) (fl t)) : kyN T mo ln fl t = (ks, kl) :=
  bst_of h (fun s l hp => by have := pcB_b (pKb_c hp) hv; omega)
theorem shN_of {T mo od t ks kl : Nat} {ln : Nat → Nat} {fl : Nat → Nat → Int32} {us : Nat → Int32} (h : bsR (bPR (pSb T mo od ln fl us t)) dT ks kl) (hv : TV (ln t) (fl t)) : shN T mo od ln fl us t = (ks, kl) :=
  bst_of h (fun s l hp => by have := pcB_b (pSb_c hp) hv; omega)
/-- the number of titles without a key; the hardest -/
def unN (T mo : Nat) (ln : Nat → Nat) (fl : Nat → Nat → Int32) : Nat → Nat
  | 0 => 0
  | t + 1 => unN T mo ln fl t + (if 0 < (kyN T mo ln fl t).2 then 0 else 1)
theorem unN_le {T mo : Nat} {ln : Nat → Nat} {fl : Nat → Nat → Int32} : ∀ t, unN T mo ln fl t ≤ t
  | 0 => Nat.le_refl _
  | t + 1 => by have := unN_le (T := T) (mo := mo) (ln := ln) (fl := fl) t; rw [unN]; split <;> omega
def hdN (T mo : Nat) (ln : Nat → Nat) (fl : Nat → Nat → Int32) : Nat → Nat × Option Nat
  | 0 => (0, none)
  | t + 1 => if (hdN T mo ln fl t).1 < (kyN T mo ln fl t).2 then ((kyN T mo ln fl t).2, some t) else hdN T mo ln fl t
/-- the closest: of t, among the first i -/
def clN (R : Nat → Nat) (t : Nat) : Nat → Option Nat
  | 0 => none
  | i + 1 => if i = t then clN R t i else match clN R t i with
    | none => some i
    | some b => if R b < R i then some i else some b
theorem i32_m1 {k : Nat} (h : k < 2 ^ 31) : (-1 : Int32) ≤ nI k := by
  rw [Int32.le_iff_toInt_le, nI_toInt h]
  have : (-1 : Int32).toInt = -1 := by decide
  omega
theorem i32_nm1 {k : Nat} (h : k < 2 ^ 31) : ¬ nI k ≤ (-1 : Int32) := by
  rw [Int32.le_iff_toInt_le, nI_toInt h]
  have : (-1 : Int32).toInt = -1 := by decide
  omega
def clL (R : Nat → Nat) (lg : Int32) : Option Nat → Prop
  | none => lg = -1
  | some d => lg = nI (R d)
theorem clN_le {R : Nat → Nat} {t i : Nat} {lg : Int32} (hne : ¬ i = t) (h : clL R lg (clN R t i)) (hR : ∀ d, R d ≤ 24) (z : nI (R i) ≤ lg) : clN R t (i + 1) = clN R t i := by
  rw [clN, if_neg hne]
  have h1 := hR i
  cases e : clN R t i with
  | none =>
    rw [e] at h
    rw [show lg = -1 from h] at z
    exact absurd z (i32_nm1 (by omega))
  | some d =>
    rw [e] at h
    have h2 := hR d
    rw [show lg = nI (R d) from h, Int32.le_iff_toInt_le, nI_toInt (by omega), nI_toInt (by omega)] at z
    exact if_neg (by omega)
theorem clN_gt {R : Nat → Nat} {t i : Nat} {lg : Int32} (hne : ¬ i = t) (h : clL R lg (clN R t i)) (hR : ∀ d, R d ≤ 24) (z : ¬ nI (R i) ≤ lg) : clN R t (i + 1) = some i := by
  rw [clN, if_neg hne]
  have h1 := hR i
  cases e : clN R t i with
  | none => rfl
  | some d =>
    rw [e] at h
    have h2 := hR d
    rw [show lg = nI (R d) from h, Int32.le_iff_toInt_le, nI_toInt (by omega), nI_toInt (by omega)] at z
    exact if_pos (by omega)
theorem clN_lo {R : Nat → Nat} {lg : Int32} {o : Option Nat} (h : clL R lg o) (hR : ∀ d, R d ≤ 24) : (-1 : Int32) ≤ lg := by
  cases o with
  | none => rw [show lg = -1 from h]; exact Int32.le_refl _
  | some d => rw [show lg = nI (R d) from h]; exact i32_m1 (Nat.lt_of_le_of_lt (hR d) (by decide))
def tyB (a : Int32) : Bool := decide (¬ a < nI 32 ∧ a ≤ nI 126)
theorem nar_ch {a : Int32} (h1 : ¬ a < nI 32) (h2 : a ≤ nI 126) : vp_nar .char a = a := by
  have h0 : ¬ a < 0 := by
    intro q
    refine h1 ?_
    rw [Int32.lt_iff_toInt_lt] at q ⊢
    rw [nI_toInt (by omega)]
    rw [Int32.toInt_zero] at q
    omega
  obtain ⟨j, hj, rfl⟩ := nI_of h0
  have h3 : j < 127 := by
    rw [Int32.le_iff_toInt_le, nI_toInt (by omega), nI_toInt (by omega)] at h2
    omega
  have : ∀ j, j < 127 → vp_nar .char (nI j) = nI j := by decide +kernel
  exact this j h3
/-- the numbers of a title -/
def ofN (n m : Nat) (u : Int32) (y1 y2 y3 y4 w : Nat) : Int32 := if w = 0 then nI n else if w = 1 then nI m else if w = 2 then u else if w = 3 then (if 0 < y2 then nI y1 else -6) else if w = 4 then (if 0 < y2 then nI y2 else -6) else if w = 5 then (if 0 < y4 then nI y3 else -6) else (if 0 < y4 then nI y4 else -6)
set_option maxRecDepth 100000 in
set_option maxHeartbeats 4000000 in
theorem z_titles {G : mG} {M : mM} {z T mo od ql c n : Nat} {q : Nat → Int32} {ln : Nat → Nat} {fl : Nat → Nat → Int32} {us : Nat → Int32} {hs : Nat → mSt} {g : Nat → Int32} (hz : zR G M z (T, mo, od, ql, q, ln, fl, us) c hs n g) : CC G iX6_titles 0 0 [.ref z] M (fun r M1 => r = some (.int (nI T)) ∧ M = M1) := by
  refine CC.of rfl (Nat.le_of_ble_eq_true rfl) rfl (fun X C Tr => ?_)
  show V X 0 0 0 [some (.ref z)] [] M
  obtain ⟨rc, rr, rp, y1, y2, y3, y4, s, tr, h, tx, rk, sy, hZ, hs0, ⟨yt, htr⟩, hh, ⟨p, cmd, val, fr, to, hx⟩, hk, ⟨yw, hy⟩, hch⟩ := hz
  obtain ⟨q9, hq9, hqn9, hsR⟩ := hs0.get
  have hsR0 := hsR
  obtain ⟨la, qa, cap, gg, ad, ifn, hS, hL, hQ, hT, hmo, hod, hql, hA⟩ := hsR
  refine s_aload_n C 1 dX6_titles_0 rfl rfl ?_
  refine s_getf C 4 dX6_titles_1 rfl f_X6_10 hZ rfl ?_
  refine s_getf C 7 dX6_titles_4 rfl f_X6_119 hS rfl ?_
  refine s_invV C 10 0 0 [] (lR_rv hL) dX6_titles_7 rfl m_X6_129 (c_size hL) rfl rfl rfl ⟨by decide, by decide⟩ (Nat.le_of_ble_eq_true rfl) (by omega) (by omega) ?_
  rintro _ M1 ⟨rfl, rfl⟩
  dsimp only [Option.toList, List.cons_append, List.nil_append]
  exact s_iret C dX6_titles_10 Tr rfl ⟨rfl, rfl⟩

set_option maxRecDepth 100000 in
set_option maxHeartbeats 4000000 in
theorem z_mode {G : mG} {M : mM} {z T mo od ql c n : Nat} {q : Nat → Int32} {ln : Nat → Nat} {fl : Nat → Nat → Int32} {us : Nat → Int32} {hs : Nat → mSt} {g : Nat → Int32} (hz : zR G M z (T, mo, od, ql, q, ln, fl, us) c hs n g) : CC G iX6_mode 0 0 [.ref z] M (fun r M1 => r = some (.int (nI mo)) ∧ M = M1) := by
  refine CC.of rfl (Nat.le_of_ble_eq_true rfl) rfl (fun X C Tr => ?_)
  show V X 0 0 0 [some (.ref z)] [] M
  obtain ⟨rc, rr, rp, y1, y2, y3, y4, s, tr, h, tx, rk, sy, hZ, hs0, ⟨yt, htr⟩, hh, ⟨p, cmd, val, fr, to, hx⟩, hk, ⟨yw, hy⟩, hch⟩ := hz
  obtain ⟨q9, hq9, hqn9, hsR⟩ := hs0.get
  have hsR0 := hsR
  obtain ⟨la, qa, cap, gg, ad, ifn, hS, hL, hQ, hT, hmo, hod, hql, hA⟩ := hsR
  refine s_aload_n C 1 dX6_mode_0 rfl rfl ?_
  refine s_getf C 4 dX6_mode_1 rfl f_X6_10 hZ rfl ?_
  refine s_getf C 7 dX6_mode_4 rfl f_X6_97 hS rfl ?_
  exact s_iret C dX6_mode_7 Tr rfl ⟨rfl, rfl⟩

set_option maxRecDepth 100000 in
set_option maxHeartbeats 4000000 in
theorem z_order {G : mG} {M : mM} {z T mo od ql c n : Nat} {q : Nat → Int32} {ln : Nat → Nat} {fl : Nat → Nat → Int32} {us : Nat → Int32} {hs : Nat → mSt} {g : Nat → Int32} (hz : zR G M z (T, mo, od, ql, q, ln, fl, us) c hs n g) : CC G iX6_order 0 0 [.ref z] M (fun r M1 => r = some (.int (nI od)) ∧ M = M1) := by
  refine CC.of rfl (Nat.le_of_ble_eq_true rfl) rfl (fun X C Tr => ?_)
  show V X 0 0 0 [some (.ref z)] [] M
  obtain ⟨rc, rr, rp, y1, y2, y3, y4, s, tr, h, tx, rk, sy, hZ, hs0, ⟨yt, htr⟩, hh, ⟨p, cmd, val, fr, to, hx⟩, hk, ⟨yw, hy⟩, hch⟩ := hz
  obtain ⟨q9, hq9, hqn9, hsR⟩ := hs0.get
  have hsR0 := hsR
  obtain ⟨la, qa, cap, gg, ad, ifn, hS, hL, hQ, hT, hmo, hod, hql, hA⟩ := hsR
  refine s_aload_n C 1 dX6_order_0 rfl rfl ?_
  refine s_getf C 4 dX6_order_1 rfl f_X6_10 hZ rfl ?_
  refine s_getf C 7 dX6_order_4 rfl f_X6_100 hS rfl ?_
  exact s_iret C dX6_order_7 Tr rfl ⟨rfl, rfl⟩

set_option maxRecDepth 100000 in
set_option maxHeartbeats 4000000 in
theorem z_queryLength {G : mG} {M : mM} {z T mo od ql c n : Nat} {q : Nat → Int32} {ln : Nat → Nat} {fl : Nat → Nat → Int32} {us : Nat → Int32} {hs : Nat → mSt} {g : Nat → Int32} (hz : zR G M z (T, mo, od, ql, q, ln, fl, us) c hs n g) : CC G iX6_queryLength 0 0 [.ref z] M (fun r M1 => r = some (.int (nI ql)) ∧ M = M1) := by
  refine CC.of rfl (Nat.le_of_ble_eq_true rfl) rfl (fun X C Tr => ?_)
  show V X 0 0 0 [some (.ref z)] [] M
  obtain ⟨rc, rr, rp, y1, y2, y3, y4, s, tr, h, tx, rk, sy, hZ, hs0, ⟨yt, htr⟩, hh, ⟨p, cmd, val, fr, to, hx⟩, hk, ⟨yw, hy⟩, hch⟩ := hz
  obtain ⟨q9, hq9, hqn9, hsR⟩ := hs0.get
  have hsR0 := hsR
  obtain ⟨la, qa, cap, gg, ad, ifn, hS, hL, hQ, hT, hmo, hod, hql, hA⟩ := hsR
  refine s_aload_n C 1 dX6_queryLength_0 rfl rfl ?_
  refine s_getf C 4 dX6_queryLength_1 rfl f_X6_10 hZ rfl ?_
  refine s_getf C 7 dX6_queryLength_4 rfl f_X6_110 hS rfl ?_
  exact s_iret C dX6_queryLength_7 Tr rfl ⟨rfl, rfl⟩

set_option maxRecDepth 100000 in
set_option maxHeartbeats 4000000 in
theorem z_queryCharacter {G : mG} {M : mM} {z T mo od ql c n : Nat} {q : Nat → Int32} {ln : Nat → Nat} {fl : Nat → Nat → Int32} {us : Nat → Int32} {hs : Nat → mSt} {g : Nat → Int32} (hz : zR G M z (T, mo, od, ql, q, ln, fl, us) c hs n g) {a : Int32} : CC G iX6_queryCharacter 0 0 [.ref z, .int a] M (fun r M1 => r = some (.int (if isIx a ql = true then q a.toNatClampNeg else -1)) ∧ M = M1) := by
  refine CC.of rfl (Nat.le_of_ble_eq_true rfl) rfl (fun X C Tr => ?_)
  show V X 0 0 0 [some (.ref z), some (.int a)] [] M
  obtain ⟨rc, rr, rp, y1, y2, y3, y4, s, tr, h, tx, rk, sy, hZ, hs0, ⟨yt, htr⟩, hh, ⟨p, cmd, val, fr, to, hx⟩, hk, ⟨yw, hy⟩, hch⟩ := hz
  obtain ⟨q9, hq9, hqn9, hsR⟩ := hs0.get
  have hsR0 := hsR
  obtain ⟨la, qa, cap, gg, ad, ifn, hS, hL, hQ, hT, hmo, hod, hql, hA⟩ := hsR
  refine s_iload_n C 1 dX6_queryCharacter_0 rfl rfl ?_
  refine s_if_lt C 27 4 dX6_queryCharacter_1 (by decide) rfl (fun z1 => ?_) (fun z1 => ?_)
  · skip
    have hz9 : isIx a ql = false := by simp [isIx, z1]
    refine s_iconst C 28 (-1) dX6_queryCharacter_27 rfl (by decide) ?_
    exact s_iret C dX6_queryCharacter_28 Tr rfl ⟨by rw [hz9]; rfl, rfl⟩
  · skip
    refine s_iload_n C 5 dX6_queryCharacter_4 rfl rfl ?_
    refine s_aload_n C 6 dX6_queryCharacter_5 rfl rfl ?_
    refine s_getf C 9 dX6_queryCharacter_6 rfl f_X6_10 hZ rfl ?_
    refine s_getf C 12 dX6_queryCharacter_9 rfl f_X6_110 hS rfl ?_
    refine s_icmp_ge C 27 15 dX6_queryCharacter_12 (by decide) rfl (fun z12 => ?_) (fun z12 => ?_)
    · skip
      have hz9 : isIx a ql = false := by simp [isIx, i32_le.mp z12, i32_nle, z12]
      refine s_iconst C 28 (-1) dX6_queryCharacter_27 rfl (by decide) ?_
      exact s_iret C dX6_queryCharacter_28 Tr rfl ⟨by rw [hz9]; rfl, rfl⟩
    · skip
      obtain ⟨k, hk9, rfl⟩ := isIx_of (x := a) (c := ql) (by simp [isIx, *]) (by omega)
      refine s_iload_n C 16 dX6_queryCharacter_15 rfl rfl ?_
      refine s_aload_n C 17 dX6_queryCharacter_16 rfl rfl ?_
      refine s_getf C 20 dX6_queryCharacter_17 rfl f_X6_10 hZ rfl ?_
      refine s_getf C 23 dX6_queryCharacter_20 rfl f_X6_202 hS rfl ?_
      refine s_alen C 24 dX6_queryCharacter_23 rfl hQ (by decide) ?_
      refine s_icmp_ltN C 29 27 dX6_queryCharacter_24 (by decide) rfl (by omega) (by omega) (fun z24 => ?_) (fun z24 => ?_)
      · skip
        refine s_aload_n C 30 dX6_queryCharacter_29 rfl rfl ?_
        refine s_getf C 33 dX6_queryCharacter_30 rfl f_X6_10 hZ rfl ?_
        refine s_getf C 36 dX6_queryCharacter_33 rfl f_X6_202 hS rfl ?_
        refine s_iload_n C 37 dX6_queryCharacter_36 rfl rfl ?_
        refine s_cald C 38 dX6_queryCharacter_37 rfl hQ (by omega) (by omega) ?_
        exact s_iret C dX6_queryCharacter_38 Tr rfl ⟨by rw [isIx_nI hk9 (by omega), if_pos rfl, nI_clamp (by omega), hq9 k hk9], rfl⟩
      · skip
        omega

set_option maxRecDepth 100000 in
set_option maxHeartbeats 4000000 in
theorem z_character {G : mG} {M : mM} {z T mo od ql c n : Nat} {q : Nat → Int32} {ln : Nat → Nat} {fl : Nat → Nat → Int32} {us : Nat → Int32} {hs : Nat → mSt} {g : Nat → Int32} (hz : zR G M z (T, mo, od, ql, q, ln, fl, us) c hs n g) {a b : Int32} : CC G iX6_character 0 0 [.ref z, .int a, .int b] M (fun r M1 => r = some (.int (if (isIx a T && isIx b (ln a.toNatClampNeg)) = true then fl a.toNatClampNeg b.toNatClampNeg else -1)) ∧ M = M1) := by
  refine CC.of rfl (Nat.le_of_ble_eq_true rfl) rfl (fun X C Tr => ?_)
  show V X 0 0 0 [some (.ref z), some (.int a), some (.int b), none] [] M
  obtain ⟨rc, rr, rp, y1, y2, y3, y4, s, tr, h, tx, rk, sy, hZ, hs0, ⟨yt, htr⟩, hh, ⟨p, cmd, val, fr, to, hx⟩, hk, ⟨yw, hy⟩, hch⟩ := hz
  obtain ⟨q9, hq9, hqn9, hsR⟩ := hs0.get
  have hsR0 := hsR
  obtain ⟨la, qa, cap, gg, ad, ifn, hS, hL, hQ, hT, hmo, hod, hql, hA⟩ := hsR
  refine s_aload_n C 1 dX6_character_0 rfl rfl ?_
  refine s_getf C 4 dX6_character_1 rfl f_X6_10 hZ rfl ?_
  refine s_iload_n C 5 dX6_character_4 rfl rfl ?_
  refine s_invV C 8 0 0 [] (sR_rv hsR0) dX6_character_5 rfl m_X6_132 (c_has (x := a) hsR0) rfl rfl rfl ⟨by decide, by decide⟩ (Nat.le_of_ble_eq_true rfl) (by omega) (by omega) ?_
  rintro _ M1 ⟨rfl, rfl⟩
  dsimp only [Option.toList, List.cons_append, List.nil_append]
  refine s_if_neB C 13 11 dX6_character_8 (by decide) rfl (fun z8 => ?_) (fun z8 => ?_)
  · skip
    obtain ⟨t, ht9, hqt⟩ := isIx_of (x := a) (c := T) z8 (by omega)
    subst hqt
    refine s_aload_n C 14 dX6_character_13 rfl rfl ?_
    refine s_getf C 17 dX6_character_14 rfl f_X6_10 hZ rfl ?_
    refine s_getf C 20 dX6_character_17 rfl f_X6_119 hS rfl ?_
    refine s_iload_n C 21 dX6_character_20 rfl rfl ?_
    refine s_invV C 24 0 0 [] (lR_rv hL) dX6_character_21 rfl m_X6_139 (c_get (i := t) hL (by omega) (hA t (by omega)).1) rfl rfl rfl ⟨by decide, by decide⟩ (Nat.le_of_ble_eq_true rfl) (by omega) (by omega) ?_
    rintro _ M2 ⟨rfl, rfl⟩
    dsimp only [Option.toList, List.cons_append, List.nil_append]
    obtain ⟨ld, id, hOd, hLd, hId⟩ := (hA t (by omega)).2.1
    have hVd := (hA t (by omega)).2.2.2
    have hnd : ln t ≤ 24 := hVd.2.1
    have hcd := cnB_le (f := fl t) (ln t)
    refine s_castT C 27 dX6_character_24 rfl hOd rfl k_X6_142 ?_
    refine s_getf C 30 dX6_character_27 rfl f_X6_144 hOd rfl ?_
    refine s_astore_n C 31 dX6_character_30 rfl rfl rfl ?_
    dsimp only [List.set]
    refine s_iload_n C 32 dX6_character_31 rfl rfl ?_
    refine s_if_lt C 41 35 dX6_character_32 (by decide) rfl (fun z32 => ?_) (fun z32 => ?_)
    · skip
      have hz9 : (isIx (nI t) T && isIx b (ln (nI t).toNatClampNeg)) = false := by simp [isIx, z32]
      refine s_iconst C 42 (-1) dX6_character_41 rfl (by decide) ?_
      exact s_iret C dX6_character_42 Tr rfl ⟨by rw [hz9]; rfl, rfl⟩
    · skip
      refine s_iload_n C 36 dX6_character_35 rfl rfl ?_
      refine s_aload_n C 37 dX6_character_36 rfl rfl ?_
      refine s_alen C 38 dX6_character_37 rfl hLd (by decide) ?_
      refine s_icmp_lt C 43 41 dX6_character_38 (by decide) rfl (fun z38 => ?_) (fun z38 => ?_)
      · skip
        obtain ⟨j, hj9, hqj⟩ := isIx_of (x := b) (c := ln t) (by unfold isIx; exact decide_eq_true ⟨z32, i32_nle.mpr z38⟩) (by omega)
        subst hqj
        refine s_aload_n C 44 dX6_character_43 rfl rfl ?_
        refine s_iload_n C 45 dX6_character_44 rfl rfl ?_
        refine s_cald C 46 dX6_character_45 rfl hLd (by omega) (by omega) ?_
        exact s_iret C dX6_character_46 Tr rfl ⟨by rw [nI_clamp (by omega), nI_clamp (by omega), isIx_nI ht9 (by omega), isIx_nI hj9 (by omega)]; rfl, rfl⟩
      · skip
        have hz9 : (isIx (nI t) T && isIx b (ln (nI t).toNatClampNeg)) = false := by rw [nI_clamp (by omega)]; have : isIx b (ln t) = false := (by unfold isIx; exact decide_eq_false (fun q => q.2 (i32_le.mpr z38))); rw [this]; exact Bool.and_false _
        refine s_iconst C 42 (-1) dX6_character_41 rfl (by decide) ?_
        exact s_iret C dX6_character_42 Tr rfl ⟨by rw [hz9]; rfl, rfl⟩
  · skip
    have hz9 : (isIx a T && isIx b (ln a.toNatClampNeg)) = false := by rw [z8]; rfl
    refine s_iconst C 12 (-1) dX6_character_11 rfl (by decide) ?_
    exact s_iret C dX6_character_12 Tr rfl ⟨by rw [hz9]; rfl, rfl⟩

set_option maxRecDepth 100000 in
set_option maxHeartbeats 4000000 in
theorem z_common {G : mG} {M : mM} {z T mo od ql c n : Nat} {q : Nat → Int32} {ln : Nat → Nat} {fl : Nat → Nat → Int32} {us : Nat → Int32} {hs : Nat → mSt} {g : Nat → Int32} (hz : zR G M z (T, mo, od, ql, q, ln, fl, us) c hs n g) {a b : Int32} : CC G iX6_common 0 0 [.ref z, .int a, .int b] M (fun r M1 => r = some (.int (if (isIx a T && isIx b T) = true then nI (cmI (fl a.toNatClampNeg) (fl b.toNatClampNeg) (ln a.toNatClampNeg) (ln b.toNatClampNeg) (ln a.toNatClampNeg)) else -1)) ∧ M = M1) := by
  refine CC.of rfl (Nat.le_of_ble_eq_true rfl) rfl (fun X C Tr => ?_)
  show V X 0 0 0 [some (.ref z), some (.int a), some (.int b)] [] M
  obtain ⟨rc, rr, rp, y1, y2, y3, y4, s, tr, h, tx, rk, sy, hZ, hs0, ⟨yt, htr⟩, hh, ⟨p, cmd, val, fr, to, hx⟩, hk, ⟨yw, hy⟩, hch⟩ := hz
  obtain ⟨q9, hq9, hqn9, hsR⟩ := hs0.get
  have hsR0 := hsR
  obtain ⟨la, qa, cap, gg, ad, ifn, hS, hL, hQ, hT, hmo, hod, hql, hA⟩ := hsR
  refine s_aload_n C 1 dX6_common_0 rfl rfl ?_
  refine s_getf C 4 dX6_common_1 rfl f_X6_10 hZ rfl ?_
  refine s_iload_n C 5 dX6_common_4 rfl rfl ?_
  refine s_invV C 8 0 0 [] (sR_rv hsR0) dX6_common_5 rfl m_X6_132 (c_has (x := a) hsR0) rfl rfl rfl ⟨by decide, by decide⟩ (Nat.le_of_ble_eq_true rfl) (by omega) (by omega) ?_
  rintro _ M1 ⟨rfl, rfl⟩
  dsimp only [Option.toList, List.cons_append, List.nil_append]
  refine s_if_eqB C 22 11 dX6_common_8 (by decide) rfl (fun z8 => ?_) (fun z8 => ?_)
  · skip
    have hz9 : (isIx a T && isIx b T) = false := by rw [z8]; rfl
    refine s_iconst C 23 (-1) dX6_common_22 rfl (by decide) ?_
    exact s_iret C dX6_common_23 Tr rfl ⟨by rw [hz9]; rfl, rfl⟩
  · skip
    refine s_aload_n C 12 dX6_common_11 rfl rfl ?_
    refine s_getf C 15 dX6_common_12 rfl f_X6_10 hZ rfl ?_
    refine s_iload_n C 16 dX6_common_15 rfl rfl ?_
    refine s_invV C 19 0 0 [] (sR_rv hsR0) dX6_common_16 rfl m_X6_132 (c_has (x := b) hsR0) rfl rfl rfl ⟨by decide, by decide⟩ (Nat.le_of_ble_eq_true rfl) (by omega) (by omega) ?_
    rintro _ M2 ⟨rfl, rfl⟩
    dsimp only [Option.toList, List.cons_append, List.nil_append]
    refine s_if_neB C 24 22 dX6_common_19 (by decide) rfl (fun z19 => ?_) (fun z19 => ?_)
    · skip
      obtain ⟨t, ht9, hqt⟩ := isIx_of (x := a) (c := T) z8 (by omega)
      subst hqt
      obtain ⟨u, hu9, hqu⟩ := isIx_of (x := b) (c := T) z19 (by omega)
      subst hqu
      refine s_aload_n C 25 dX6_common_24 rfl rfl ?_
      refine s_getf C 28 dX6_common_25 rfl f_X6_10 hZ rfl ?_
      refine s_getf C 31 dX6_common_28 rfl f_X6_119 hS rfl ?_
      refine s_iload_n C 32 dX6_common_31 rfl rfl ?_
      refine s_invV C 35 0 0 [] (lR_rv hL) dX6_common_32 rfl m_X6_139 (c_get (i := t) hL (by omega) (hA t (by omega)).1) rfl rfl rfl ⟨by decide, by decide⟩ (Nat.le_of_ble_eq_true rfl) (by omega) (by omega) ?_
      rintro _ M3 ⟨rfl, rfl⟩
      dsimp only [Option.toList, List.cons_append, List.nil_append]
      obtain ⟨ld, id, hOd, hLd, hId⟩ := (hA t (by omega)).2.1
      have hVd := (hA t (by omega)).2.2.2
      have hnd : ln t ≤ 24 := hVd.2.1
      have hcd := cnB_le (f := fl t) (ln t)
      refine s_castT C 38 dX6_common_35 rfl hOd rfl k_X6_142 ?_
      refine s_aload_n C 39 dX6_common_38 rfl rfl ?_
      refine s_getf C 42 dX6_common_39 rfl f_X6_10 hZ rfl ?_
      refine s_getf C 45 dX6_common_42 rfl f_X6_119 hS rfl ?_
      refine s_iload_n C 46 dX6_common_45 rfl rfl ?_
      refine s_invV C 49 0 0 [.ref (ad t)] (lR_rv hL) dX6_common_46 rfl m_X6_139 (c_get (i := u) hL (by omega) (hA u (by omega)).1) rfl rfl rfl ⟨by decide, by decide⟩ (Nat.le_of_ble_eq_true rfl) (by omega) (by omega) ?_
      rintro _ M4 ⟨rfl, rfl⟩
      dsimp only [Option.toList, List.cons_append, List.nil_append]
      obtain ⟨le, ie, hOe, hLe, hIe⟩ := (hA u (by omega)).2.1
      have hVe := (hA u (by omega)).2.2.2
      have hne : ln u ≤ 24 := hVe.2.1
      have hce := cnB_le (f := fl u) (ln u)
      refine s_castT C 52 dX6_common_49 rfl hOe rfl k_X6_142 ?_
      refine s_invV C 55 0 0 [] (mRv_of hOd rfl) dX6_common_52 rfl m_X6_180 (c_commonRun hOd hLd hId hOe hLe hIe (by omega) (by omega)) rfl rfl rfl ⟨by decide, by decide⟩ (Nat.le_of_ble_eq_true rfl) (by omega) (by omega) ?_
      rintro _ M5 ⟨rfl, rfl⟩
      dsimp only [Option.toList, List.cons_append, List.nil_append]
      exact s_iret C dX6_common_55 Tr rfl ⟨by rw [nI_clamp (by omega), nI_clamp (by omega), isIx_nI ht9 (by omega), isIx_nI hu9 (by omega)]; rfl, rfl⟩
    · skip
      have hz9 : (isIx a T && isIx b T) = false := by rw [z19]; exact Bool.and_false _
      refine s_iconst C 23 (-1) dX6_common_22 rfl (by decide) ?_
      exact s_iret C dX6_common_23 Tr rfl ⟨by rw [hz9]; rfl, rfl⟩

set_option maxRecDepth 100000 in
set_option maxHeartbeats 4000000 in
theorem z_closest {G : mG} {M : mM} {z T mo od ql c n : Nat} {q : Nat → Int32} {ln : Nat → Nat} {fl : Nat → Nat → Int32} {us : Nat → Int32} {hs : Nat → mSt} {g : Nat → Int32} (hz : zR G M z (T, mo, od, ql, q, ln, fl, us) c hs n g) {a : Int32} : CC G iX6_closest 0 0 [.ref z, .int a] M (fun r M1 => r = some (.int (if isIx a T = true then oI (clN (fun i => cmI (fl a.toNatClampNeg) (fl i) (ln a.toNatClampNeg) (ln i) (ln a.toNatClampNeg)) a.toNatClampNeg T) else -1)) ∧ M = M1) := by
  refine CC.of rfl (Nat.le_of_ble_eq_true rfl) rfl (fun X C Tr => ?_)
  show V X 0 0 0 [some (.ref z), some (.int a), none, none, none, none, none] [] M
  obtain ⟨rc, rr, rp, y1, y2, y3, y4, s, tr, h, tx, rk, sy, hZ, hs0, ⟨yt, htr⟩, hh, ⟨p, cmd, val, fr, to, hx⟩, hk, ⟨yw, hy⟩, hch⟩ := hz
  obtain ⟨q9, hq9, hqn9, hsR⟩ := hs0.get
  have hsR0 := hsR
  obtain ⟨la, qa, cap, gg, ad, ifn, hS, hL, hQ, hT, hmo, hod, hql, hA⟩ := hsR
  refine s_aload_n C 1 dX6_closest_0 rfl rfl ?_
  refine s_getf C 4 dX6_closest_1 rfl f_X6_10 hZ rfl ?_
  refine s_iload_n C 5 dX6_closest_4 rfl rfl ?_
  refine s_invV C 8 0 0 [] (sR_rv hsR0) dX6_closest_5 rfl m_X6_132 (c_has (x := a) hsR0) rfl rfl rfl ⟨by decide, by decide⟩ (Nat.le_of_ble_eq_true rfl) (by omega) (by omega) ?_
  rintro _ M1 ⟨rfl, rfl⟩
  dsimp only [Option.toList, List.cons_append, List.nil_append]
  refine s_if_neB C 13 11 dX6_closest_8 (by decide) rfl (fun z8 => ?_) (fun z8 => ?_)
  · skip
    obtain ⟨t, ht9, hqt⟩ := isIx_of (x := a) (c := T) z8 (by omega)
    subst hqt
    refine s_aload_n C 14 dX6_closest_13 rfl rfl ?_
    refine s_getf C 17 dX6_closest_14 rfl f_X6_10 hZ rfl ?_
    refine s_getf C 20 dX6_closest_17 rfl f_X6_119 hS rfl ?_
    refine s_iload_n C 21 dX6_closest_20 rfl rfl ?_
    refine s_invV C 24 0 0 [] (lR_rv hL) dX6_closest_21 rfl m_X6_139 (c_get (i := t) hL (by omega) (hA t (by omega)).1) rfl rfl rfl ⟨by decide, by decide⟩ (Nat.le_of_ble_eq_true rfl) (by omega) (by omega) ?_
    rintro _ M2 ⟨rfl, rfl⟩
    dsimp only [Option.toList, List.cons_append, List.nil_append]
    obtain ⟨ld, id, hOd, hLd, hId⟩ := (hA t (by omega)).2.1
    have hVd := (hA t (by omega)).2.2.2
    have hnd : ln t ≤ 24 := hVd.2.1
    have hcd := cnB_le (f := fl t) (ln t)
    refine s_castT C 27 dX6_closest_24 rfl hOd rfl k_X6_142 ?_
    refine s_astore_n C 28 dX6_closest_27 rfl rfl rfl ?_
    dsimp only [List.set]
    refine s_bipush C 30 (-6) dX6_closest_28 rfl (by decide) ?_
    refine s_istore_n C 31 dX6_closest_30 rfl rfl rfl ?_
    dsimp only [List.set]
    refine s_iconst C 32 (-1) dX6_closest_31 rfl (by decide) ?_
    refine s_istore C 34 dX6_closest_32 rfl rfl rfl ?_
    dsimp only [List.set]
    refine s_iconst C 35 (nI 0) dX6_closest_34 rfl (by decide) ?_
    refine s_istore C 37 dX6_closest_35 rfl rfl rfl ?_
    dsimp only [List.set]
    suffices lp37 : ∀ (fu37 : Nat) (i : Nat) (lg : Int32), T - i < fu37 → i ≤ T → clL (fun i => cmI (fl t) (fl i) (ln t) (ln i) (ln t)) lg (clN (fun i => cmI (fl t) (fl i) (ln t) (ln i) (ln t)) t i) → V X 0 0 37 [some (.ref z), some (.int (nI t)), some (.ref (ad t)), some (.int (oI (clN (fun i => cmI (fl t) (fl i) (ln t) (ln i) (ln t)) t i))), some (.int lg), some (.int (nI i)), none] [] M from lp37 (T + 1) 0 (-1) (by omega) (by omega) rfl
    intro fu37
    induction fu37 with
    | zero => intro i lg hi0 hi hlg; omega
    | succ fu37 ih37 =>
      intro i lg hi0 hi hlg
      refine s_iload C 39 dX6_closest_37 rfl rfl ?_
      refine s_aload_n C 40 dX6_closest_39 rfl rfl ?_
      refine s_getf C 43 dX6_closest_40 rfl f_X6_10 hZ rfl ?_
      refine s_getf C 46 dX6_closest_43 rfl f_X6_119 hS rfl ?_
      refine s_invV C 49 0 0 [.int (nI i)] (lR_rv hL) dX6_closest_46 rfl m_X6_129 (c_size hL) rfl rfl rfl ⟨by decide, by decide⟩ (Nat.le_of_ble_eq_true rfl) (by omega) (by omega) ?_
      rintro _ M3 ⟨rfl, rfl⟩
      dsimp only [Option.toList, List.cons_append, List.nil_append]
      refine s_icmp_geN C 103 52 dX6_closest_49 (by decide) rfl (by omega) (by omega) (fun z49 => ?_) (fun z49 => ?_)
      · skip
        have hiT : i = T := by omega
        subst hiT
        refine s_iload_n C 104 dX6_closest_103 rfl rfl ?_
        exact s_iret C dX6_closest_104 Tr rfl ⟨by rw [nI_clamp (by omega), isIx_nI ht9 (by omega)]; rfl, rfl⟩
      · skip
        refine s_iload C 54 dX6_closest_52 rfl rfl ?_
        refine s_iload_n C 55 dX6_closest_54 rfl rfl ?_
        refine s_icmp_neN C 62 58 dX6_closest_55 (by decide) rfl (by omega) (by omega) (fun z55 => ?_) (fun z55 => ?_)
        · skip
          have hnq := z55
          refine s_aload_n C 63 dX6_closest_62 rfl rfl ?_
          refine s_aload_n C 64 dX6_closest_63 rfl rfl ?_
          refine s_getf C 67 dX6_closest_64 rfl f_X6_10 hZ rfl ?_
          refine s_getf C 70 dX6_closest_67 rfl f_X6_119 hS rfl ?_
          refine s_iload C 72 dX6_closest_70 rfl rfl ?_
          refine s_invV C 75 0 0 [.ref (ad t)] (lR_rv hL) dX6_closest_72 rfl m_X6_139 (c_get (i := i) hL (by omega) (hA i (by omega)).1) rfl rfl rfl ⟨by decide, by decide⟩ (Nat.le_of_ble_eq_true rfl) (by omega) (by omega) ?_
          rintro _ M4 ⟨rfl, rfl⟩
          dsimp only [Option.toList, List.cons_append, List.nil_append]
          obtain ⟨le, ie, hOe, hLe, hIe⟩ := (hA i (by omega)).2.1
          have hVe := (hA i (by omega)).2.2.2
          have hne : ln i ≤ 24 := hVe.2.1
          have hce := cnB_le (f := fl i) (ln i)
          refine s_castT C 78 dX6_closest_75 rfl hOe rfl k_X6_142 ?_
          refine s_invV C 81 0 0 [] (mRv_of hOd rfl) dX6_closest_78 rfl m_X6_180 (c_commonRun hOd hLd hId hOe hLe hIe (by omega) (by omega)) rfl rfl rfl ⟨by decide, by decide⟩ (Nat.le_of_ble_eq_true rfl) (by omega) (by omega) ?_
          rintro _ M5 ⟨rfl, rfl⟩
          dsimp only [Option.toList, List.cons_append, List.nil_append]
          refine s_istore C 83 dX6_closest_81 rfl rfl rfl ?_
          dsimp only [List.set]
          refine s_iload C 85 dX6_closest_83 rfl rfl ?_
          refine s_iload C 87 dX6_closest_85 rfl rfl ?_
          refine s_icmp_le C 97 90 dX6_closest_87 (by decide) rfl (fun z87 => ?_) (fun z87 => ?_)
          · skip
            have hst := clN_le (R := (fun i => cmI (fl t) (fl i) (ln t) (ln i) (ln t))) hnq hlg (fun d => cmI_le (f := fl t) (g := fl d) (n := ln t) (m := ln d) (ln t)) z87
            have hst1 : oI (clN (fun i => cmI (fl t) (fl i) (ln t) (ln i) (ln t)) t i) = oI (clN (fun i => cmI (fl t) (fl i) (ln t) (ln i) (ln t)) t (i + 1)) := by rw [hst]
            have hlg2 : clL (fun i => cmI (fl t) (fl i) (ln t) (ln i) (ln t)) lg (clN (fun i => cmI (fl t) (fl i) (ln t) (ln i) (ln t)) t (i + 1)) := by rw [hst]; exact hlg
            refine s_iinc C 100 (nI (i + 1)) dX6_closest_97 rfl rfl (by rw [← nI_add]; rfl) rfl ?_
            dsimp only [List.set]
            refine s_goto C 37 dX6_closest_100 (by decide) ?_
            refine V.drop 6 ?_
            dsimp only [List.set]
            rw [show (oI (clN (fun i => cmI (fl t) (fl i) (ln t) (ln i) (ln t)) t i)) = oI (clN (fun i => cmI (fl t) (fl i) (ln t) (ln i) (ln t)) t (i + 1)) by first | exact hst1 | exact hst1.symm]
            exact ih37 (i + 1) _ (by omega) (by omega) hlg2
          · skip
            have hst := clN_gt (R := (fun i => cmI (fl t) (fl i) (ln t) (ln i) (ln t))) hnq hlg (fun d => cmI_le (f := fl t) (g := fl d) (n := ln t) (m := ln d) (ln t)) z87
            have hst1 : nI i = oI (clN (fun i => cmI (fl t) (fl i) (ln t) (ln i) (ln t)) t (i + 1)) := by rw [hst]; rfl
            have hlg2 : clL (fun i => cmI (fl t) (fl i) (ln t) (ln i) (ln t)) (nI (cmI (fl t) (fl i) (ln t) (ln i) (ln t))) (clN (fun i => cmI (fl t) (fl i) (ln t) (ln i) (ln t)) t (i + 1)) := by rw [hst]; rfl
            refine s_iload C 92 dX6_closest_90 rfl rfl ?_
            refine s_istore C 94 dX6_closest_92 rfl rfl rfl ?_
            dsimp only [List.set]
            refine s_iload C 96 dX6_closest_94 rfl rfl ?_
            refine s_istore_n C 97 dX6_closest_96 rfl rfl rfl ?_
            dsimp only [List.set]
            refine s_iinc C 100 (nI (i + 1)) dX6_closest_97 rfl rfl (by rw [← nI_add]; rfl) rfl ?_
            dsimp only [List.set]
            refine s_goto C 37 dX6_closest_100 (by decide) ?_
            refine V.drop 6 ?_
            dsimp only [List.set]
            rw [show (nI i) = oI (clN (fun i => cmI (fl t) (fl i) (ln t) (ln i) (ln t)) t (i + 1)) by first | exact hst1 | exact hst1.symm]
            exact ih37 (i + 1) _ (by omega) (by omega) hlg2
        · skip
          have hst : clN (fun i => cmI (fl t) (fl i) (ln t) (ln i) (ln t)) t (i + 1) = clN (fun i => cmI (fl t) (fl i) (ln t) (ln i) (ln t)) t i := by rw [clN, if_pos z55]
          refine s_iconst C 59 (-1) dX6_closest_58 rfl (by decide) ?_
          refine s_goto C 81 dX6_closest_59 (by decide) ?_
          refine s_istore C 83 dX6_closest_81 rfl rfl rfl ?_
          dsimp only [List.set]
          refine s_iload C 85 dX6_closest_83 rfl rfl ?_
          refine s_iload C 87 dX6_closest_85 rfl rfl ?_
          refine s_icmp_le C 97 90 dX6_closest_87 (by decide) rfl (fun z87 => ?_) (fun z87 => ?_)
          · skip
            have hst1 : oI (clN (fun i => cmI (fl t) (fl i) (ln t) (ln i) (ln t)) t i) = oI (clN (fun i => cmI (fl t) (fl i) (ln t) (ln i) (ln t)) t (i + 1)) := by rw [hst]
            have hlg2 : clL (fun i => cmI (fl t) (fl i) (ln t) (ln i) (ln t)) lg (clN (fun i => cmI (fl t) (fl i) (ln t) (ln i) (ln t)) t (i + 1)) := by rw [hst]; exact hlg
            refine s_iinc C 100 (nI (i + 1)) dX6_closest_97 rfl rfl (by rw [← nI_add]; rfl) rfl ?_
            dsimp only [List.set]
            refine s_goto C 37 dX6_closest_100 (by decide) ?_
            refine V.drop 6 ?_
            dsimp only [List.set]
            rw [show (oI (clN (fun i => cmI (fl t) (fl i) (ln t) (ln i) (ln t)) t i)) = oI (clN (fun i => cmI (fl t) (fl i) (ln t) (ln i) (ln t)) t (i + 1)) by first | exact hst1 | exact hst1.symm]
            exact ih37 (i + 1) _ (by omega) (by omega) hlg2
          · skip
            exact absurd (clN_lo hlg (fun d => cmI_le (f := fl t) (g := fl d) (n := ln t) (m := ln d) (ln t))) z87
  · skip
    have hz9 := z8
    refine s_iconst C 12 (-1) dX6_closest_11 rfl (by decide) ?_
    exact s_iret C dX6_closest_12 Tr rfl ⟨by rw [hz9]; rfl, rfl⟩

theorem xR_rv {G : mG} {M : mM} {x n p fr to : Nat} {cmd val : Int32} {g : Nat → Int32} (h : xR M x n p cmd val fr to g) : mRv G M RX4 x := by
  obtain ⟨sa, hX, -⟩ := h
  exact mRv_of hX rfl
set_option maxRecDepth 100000 in
set_option maxHeartbeats 4000000 in
theorem z_type {G : mG} {M : mM} {z T mo od ql c n : Nat} {q : Nat → Int32} {ln : Nat → Nat} {fl : Nat → Nat → Int32} {us : Nat → Int32} {hs : Nat → mSt} {g : Nat → Int32} (hz : zR G M z (T, mo, od, ql, q, ln, fl, us) c hs n g) {a : Int32} : CC G iX6_type 0 0 [.ref z, .int a] M (fun r M1 => r = some (.int (if tyB a = true then if n < 80 then nI (n + 1) else -4 else -2)) ∧ zR G M1 z (T, mo, od, ql, q, ln, fl, us) c hs (if tyB a = true ∧ n < 80 then n + 1 else n) (if tyB a = true ∧ n < 80 then upd g n a else g) ∧ mZ TZ M M1) := by
  refine CC.of rfl (Nat.le_of_ble_eq_true rfl) rfl (fun X C Tr => ?_)
  show V X 0 0 0 [some (.ref z), some (.int a)] [] M
  obtain ⟨rc, rr, rp, y1, y2, y3, y4, s, tr, h, tx, rk, sy, hZ, hs0, ⟨yt, htr⟩, hh, ⟨p, cmd, val, fr, to, hx⟩, hk, ⟨yw, hy⟩, hch⟩ := hz
  refine s_iload_n C 1 dX6_type_0 rfl rfl ?_
  refine s_bipush C 3 (nI 32) dX6_type_1 rfl (by decide) ?_
  refine s_icmp_lt C 12 6 dX6_type_3 (by decide) rfl (fun z3 => ?_) (fun z3 => ?_)
  · skip
    have hty : tyB a = false := decide_eq_false (fun q => q.1 z3)
    have hc9 : (if tyB a = true then if n < 80 then nI (n + 1) else -4 else -2) = (-2 : Int32) := by rw [hty]; rfl
    have hd9 : ¬ (tyB a = true ∧ n < 80) := fun q => by rw [hty] at q; cases q.1
    refine s_bipush C 14 (-2) dX6_type_12 rfl (by decide) ?_
    exact s_iret C dX6_type_14 Tr rfl ⟨by rw [hc9], by rw [if_neg hd9, if_neg hd9]; exact ⟨_, _, _, _, _, _, _, s, tr, h, tx, rk, sy, hZ, hs0, ⟨_, htr⟩, hh, ⟨_, _, _, _, _, hx⟩, hk, ⟨_, hy⟩, hch⟩, mZ.rf⟩
  · skip
    refine s_iload_n C 7 dX6_type_6 rfl rfl ?_
    refine s_bipush C 9 (nI 126) dX6_type_7 rfl (by decide) ?_
    refine s_icmp_le C 15 12 dX6_type_9 (by decide) rfl (fun z9 => ?_) (fun z9 => ?_)
    · skip
      refine s_aload_n C 16 dX6_type_15 rfl rfl ?_
      refine s_getf C 19 dX6_type_16 rfl f_X6_29 hZ rfl ?_
      refine s_iload_n C 20 dX6_type_19 rfl rfl ?_
      refine s_i2c C 21 dX6_type_20 rfl (nar_ch z3 z9) ?_
      refine s_invV C 24 0 0 [] (xR_rv hx) dX6_type_21 rfl m_X6_47 (c_append4 hx (nar_ch z3 z9)) rfl rfl rfl ⟨by decide, by decide⟩ (Nat.le_of_ble_eq_true rfl) (by omega) (by omega) ?_
      rintro _ M1 ⟨rfl, hap, hno⟩
      dsimp only [Option.toList, List.cons_append, List.nil_append]
      refine s_if_neB C 30 27 dX6_type_24 (by decide) rfl (fun z24 => ?_) (fun z24 => ?_)
      · skip
        have z24 := of_decide_eq_true z24
        obtain ⟨hx9, hFx⟩ := hap z24
        have hZ := hFx.at hZ (by first | (simp; done) | (simp; omega) | (rw [mem_TH]; omega) | (rw [mem_TZ]; omega))
        have hs0 := hs0.at hFx (by first | (simp; done) | (simp; omega) | (rw [mem_TH]; omega) | (rw [mem_TZ]; omega)) (by first | (simp; done) | (simp; omega) | (rw [mem_TH]; omega) | (rw [mem_TZ]; omega)) (fun j hj => by first | (simp; done) | (simp; omega) | (rw [mem_TH]; omega) | (rw [mem_TZ]; omega))
        have htr := htr.at hFx (by first | (simp; done) | (simp; omega) | (rw [mem_TH]; omega) | (rw [mem_TZ]; omega)) (by first | (simp; done) | (simp; omega) | (rw [mem_TH]; omega) | (rw [mem_TZ]; omega)) (fun j hj => by first | (simp; done) | (simp; omega) | (rw [mem_TH]; omega) | (rw [mem_TZ]; omega))
        have hh := hh.at hFx (by first | (simp; done) | (simp; omega) | (rw [mem_TH]; omega) | (rw [mem_TZ]; omega)) (by first | (simp; done) | (simp; omega) | (rw [mem_TH]; omega) | (rw [mem_TZ]; omega)) (by first | (simp; done) | (simp; omega) | (rw [mem_TH]; omega) | (rw [mem_TZ]; omega)) (fun t ht => by rw [mem_TH] at ht; first | (simp; done) | (simp; omega))
        have hk := hk.at hFx (by first | (simp; done) | (simp; omega) | (rw [mem_TH]; omega) | (rw [mem_TZ]; omega)) (by first | (simp; done) | (simp; omega) | (rw [mem_TH]; omega) | (rw [mem_TZ]; omega)) (by first | (simp; done) | (simp; omega) | (rw [mem_TH]; omega) | (rw [mem_TZ]; omega))
        have hy := hy.at hFx (by first | (simp; done) | (simp; omega) | (rw [mem_TH]; omega) | (rw [mem_TZ]; omega)) (by first | (simp; done) | (simp; omega) | (rw [mem_TH]; omega) | (rw [mem_TZ]; omega)) (by first | (simp; done) | (simp; omega) | (rw [mem_TH]; omega) | (rw [mem_TZ]; omega))
        have hx := hx9
        obtain ⟨sa, hX, hG, hn80⟩ := hx
        have hty : tyB a = true := decide_eq_true ⟨z3, z9⟩
        have hc9 : (if tyB a = true then if n < 80 then nI (n + 1) else -4 else -2) = nI (n + 1) := by rw [hty, if_pos rfl, if_pos z24]
        have hch2 : ∀ k, k < n + 1 → vp_nar .char (upd g n a k) = upd g n a k := fun k hk => by by_cases e : k = n; (· rw [e, pk_us]; exact nar_ch z3 z9); rw [pk_un e]; exact hch k (by omega)
        refine s_aload_n C 31 dX6_type_30 rfl rfl ?_
        refine s_getf C 34 dX6_type_31 rfl f_X6_29 hZ rfl ?_
        refine s_getf C 37 dX6_type_34 rfl f_X6_51 hX rfl ?_
        exact s_iret C dX6_type_37 Tr rfl ⟨by rw [hc9], by rw [if_pos ⟨hty, z24⟩, if_pos ⟨hty, z24⟩]; exact ⟨_, _, _, _, _, _, _, s, tr, h, tx, rk, sy, hZ, hs0, ⟨_, htr⟩, hh, ⟨_, _, _, _, _, ⟨_, hX, hG, hn80⟩⟩, hk, ⟨_, hy⟩, hch2⟩, (hFx.mono (fun t ht => by first | (rw [mem_TH] at ht; rw [mem_TZ]; omega) | (simp at ht; done) | (rw [mem_TZ]; simp at ht; omega)))⟩
      · skip
        have z24 := of_decide_eq_false z24
        have hno := hno (by omega)
        subst hno
        have hc9 : (if tyB a = true then if n < 80 then nI (n + 1) else -4 else -2) = (-4 : Int32) := by rw [show tyB a = true from decide_eq_true ⟨z3, z9⟩, if_pos rfl, if_neg z24]
        have hd9 : ¬ (tyB a = true ∧ n < 80) := fun q => z24 q.2
        refine s_bipush C 29 (-4) dX6_type_27 rfl (by decide) ?_
        exact s_iret C dX6_type_29 Tr rfl ⟨by rw [hc9], by rw [if_neg hd9, if_neg hd9]; exact ⟨_, _, _, _, _, _, _, s, tr, h, tx, rk, sy, hZ, hs0, ⟨_, htr⟩, hh, ⟨_, _, _, _, _, hx⟩, hk, ⟨_, hy⟩, hch⟩, mZ.rf⟩
    · skip
      have hty : tyB a = false := decide_eq_false (fun q => z9 q.2)
      have hc9 : (if tyB a = true then if n < 80 then nI (n + 1) else -4 else -2) = (-2 : Int32) := by rw [hty]; rfl
      have hd9 : ¬ (tyB a = true ∧ n < 80) := fun q => by rw [hty] at q; cases q.1
      refine s_bipush C 14 (-2) dX6_type_12 rfl (by decide) ?_
      exact s_iret C dX6_type_14 Tr rfl ⟨by rw [hc9], by rw [if_neg hd9, if_neg hd9]; exact ⟨_, _, _, _, _, _, _, s, tr, h, tx, rk, sy, hZ, hs0, ⟨_, htr⟩, hh, ⟨_, _, _, _, _, hx⟩, hk, ⟨_, hy⟩, hch⟩, mZ.rf⟩

set_option maxRecDepth 100000 in
set_option maxHeartbeats 4000000 in
theorem z_clearText {G : mG} {M : mM} {z T mo od ql c n : Nat} {q : Nat → Int32} {ln : Nat → Nat} {fl : Nat → Nat → Int32} {us : Nat → Int32} {hs : Nat → mSt} {g : Nat → Int32} (hz : zR G M z (T, mo, od, ql, q, ln, fl, us) c hs n g) : CC G iX6_clearText 0 0 [.ref z] M (fun r M1 => r = some (.int (nI n)) ∧ zR G M1 z (T, mo, od, ql, q, ln, fl, us) c hs 0 g ∧ mZ TZ M M1) := by
  refine CC.of rfl (Nat.le_of_ble_eq_true rfl) rfl (fun X C Tr => ?_)
  show V X 0 0 0 [some (.ref z), none] [] M
  obtain ⟨rc, rr, rp, y1, y2, y3, y4, s, tr, h, tx, rk, sy, hZ, hs0, ⟨yt, htr⟩, hh, ⟨p, cmd, val, fr, to, hx⟩, hk, ⟨yw, hy⟩, hch⟩ := hz
  have hx0 := hx
  obtain ⟨sa, hX, hG, hn80⟩ := hx
  have hx := hx0
  refine s_aload_n C 1 dX6_clearText_0 rfl rfl ?_
  refine s_getf C 4 dX6_clearText_1 rfl f_X6_29 hZ rfl ?_
  refine s_getf C 7 dX6_clearText_4 rfl f_X6_51 hX rfl ?_
  refine s_istore_n C 8 dX6_clearText_7 rfl rfl rfl ?_
  dsimp only [List.set]
  refine s_aload_n C 9 dX6_clearText_8 rfl rfl ?_
  refine s_getf C 12 dX6_clearText_9 rfl f_X6_29 hZ rfl ?_
  refine s_invV C 15 0 0 [] (mRv_of hX rfl) dX6_clearText_12 rfl m_X6_55 (c_makeEmpty ⟨sa, hX, hG, hn80⟩) rfl rfl rfl ⟨by decide, by decide⟩ (Nat.le_of_ble_eq_true rfl) (by omega) (by omega) ?_
  rintro _ M1 ⟨rfl, hx9, hFx⟩
  dsimp only [Option.toList, List.cons_append, List.nil_append]
  have hZ := hFx.at hZ (by first | (simp; done) | (simp; omega) | (rw [mem_TH]; omega) | (rw [mem_TZ]; omega))
  have hs0 := hs0.at hFx (by first | (simp; done) | (simp; omega) | (rw [mem_TH]; omega) | (rw [mem_TZ]; omega)) (by first | (simp; done) | (simp; omega) | (rw [mem_TH]; omega) | (rw [mem_TZ]; omega)) (fun j hj => by first | (simp; done) | (simp; omega) | (rw [mem_TH]; omega) | (rw [mem_TZ]; omega))
  have htr := htr.at hFx (by first | (simp; done) | (simp; omega) | (rw [mem_TH]; omega) | (rw [mem_TZ]; omega)) (by first | (simp; done) | (simp; omega) | (rw [mem_TH]; omega) | (rw [mem_TZ]; omega)) (fun j hj => by first | (simp; done) | (simp; omega) | (rw [mem_TH]; omega) | (rw [mem_TZ]; omega))
  have hh := hh.at hFx (by first | (simp; done) | (simp; omega) | (rw [mem_TH]; omega) | (rw [mem_TZ]; omega)) (by first | (simp; done) | (simp; omega) | (rw [mem_TH]; omega) | (rw [mem_TZ]; omega)) (by first | (simp; done) | (simp; omega) | (rw [mem_TH]; omega) | (rw [mem_TZ]; omega)) (fun t ht => by rw [mem_TH] at ht; first | (simp; done) | (simp; omega))
  have hk := hk.at hFx (by first | (simp; done) | (simp; omega) | (rw [mem_TH]; omega) | (rw [mem_TZ]; omega)) (by first | (simp; done) | (simp; omega) | (rw [mem_TH]; omega) | (rw [mem_TZ]; omega)) (by first | (simp; done) | (simp; omega) | (rw [mem_TH]; omega) | (rw [mem_TZ]; omega))
  have hy := hy.at hFx (by first | (simp; done) | (simp; omega) | (rw [mem_TH]; omega) | (rw [mem_TZ]; omega)) (by first | (simp; done) | (simp; omega) | (rw [mem_TH]; omega) | (rw [mem_TZ]; omega)) (by first | (simp; done) | (simp; omega) | (rw [mem_TH]; omega) | (rw [mem_TZ]; omega))
  have hx := hx9
  refine s_iload_n C 16 dX6_clearText_15 rfl rfl ?_
  exact s_iret C dX6_clearText_16 Tr rfl ⟨rfl, ⟨_, _, _, _, _, _, _, s, tr, h, tx, rk, sy, hZ, hs0, ⟨_, htr⟩, hh, ⟨_, _, _, _, _, hx⟩, hk, ⟨_, hy⟩, (fun k hk => absurd hk (Nat.not_lt_zero _))⟩, (hFx.mono (fun t ht => by first | (rw [mem_TH] at ht; rw [mem_TZ]; omega) | (simp at ht; done) | (rw [mem_TZ]; simp at ht; omega)))⟩

set_option maxRecDepth 100000 in
set_option maxHeartbeats 4000000 in
theorem z_results {G : mG} {M : mM} {z T mo od ql c n : Nat} {q : Nat → Int32} {ln : Nat → Nat} {fl : Nat → Nat → Int32} {us : Nat → Int32} {hs : Nat → mSt} {g : Nat → Int32} (hz : zR G M z (T, mo, od, ql, q, ln, fl, us) c hs n g) : CC G iX6_results 0 0 [.ref z] M (fun r M1 => r = some (.int (nI (rkN T mo od ql q ln fl us T).1)) ∧ (∃ y1 y2 y3 y4, zA G M1 z (T, mo, od, ql, q, ln, fl, us) c hs n g (rkN T mo od ql q ln fl us T).1 (rkN T mo od ql q ln fl us T).2 (plN mo ql q ln fl) y1 y2 y3 y4) ∧ mZ [30, 31, 32] M M1) := by
  refine CC.of rfl (Nat.le_of_ble_eq_true rfl) rfl (fun X C Tr => ?_)
  show V X 0 0 0 [some (.ref z)] [] M
  obtain ⟨rc, rr, rp, y1, y2, y3, y4, s, tr, h, tx, rk, sy, hZ, hs0, ⟨yt, htr⟩, hh, ⟨p, cmd, val, fr, to, hx⟩, hk, ⟨yw, hy⟩, hch⟩ := hz
  obtain ⟨q9, hq9, hqn9, hsR⟩ := hs0.get
  have hsR0 := hsR
  obtain ⟨la, qa, cap, gg, ad, ifn, hS, hL, hQ, hT, hmo, hod, hql, hA⟩ := hsR
  refine s_aload_n C 1 dX6_results_0 rfl rfl ?_
  refine s_getf C 4 dX6_results_1 rfl f_X6_36 hZ rfl ?_
  refine s_aload_n C 5 dX6_results_4 rfl rfl ?_
  refine s_getf C 8 dX6_results_5 rfl f_X6_10 hZ rfl ?_
  refine s_invV C 11 0 0 [] (kR_rv hk) dX6_results_8 rfl m_X6_205 (c_rank hsR0 hk) rfl rfl rfl ⟨by decide, by decide⟩ (Nat.le_of_ble_eq_true rfl) (by omega) (by omega) ?_
  rintro _ M1 ⟨rfl, hk9, hFk⟩
  dsimp only [Option.toList, List.cons_append, List.nil_append]
  have hZ := hFk.at hZ (by first | (simp; done) | (simp; omega) | (rw [mem_TH]; omega) | (rw [mem_TZ]; omega))
  have hs0 := hs0.at hFk (by first | (simp; done) | (simp; omega) | (rw [mem_TH]; omega) | (rw [mem_TZ]; omega)) (by first | (simp; done) | (simp; omega) | (rw [mem_TH]; omega) | (rw [mem_TZ]; omega)) (fun j hj => by first | (simp; done) | (simp; omega) | (rw [mem_TH]; omega) | (rw [mem_TZ]; omega))
  have htr := htr.at hFk (by first | (simp; done) | (simp; omega) | (rw [mem_TH]; omega) | (rw [mem_TZ]; omega)) (by first | (simp; done) | (simp; omega) | (rw [mem_TH]; omega) | (rw [mem_TZ]; omega)) (fun j hj => by first | (simp; done) | (simp; omega) | (rw [mem_TH]; omega) | (rw [mem_TZ]; omega))
  have hh := hh.at hFk (by first | (simp; done) | (simp; omega) | (rw [mem_TH]; omega) | (rw [mem_TZ]; omega)) (by first | (simp; done) | (simp; omega) | (rw [mem_TH]; omega) | (rw [mem_TZ]; omega)) (by first | (simp; done) | (simp; omega) | (rw [mem_TH]; omega) | (rw [mem_TZ]; omega)) (fun t ht => by rw [mem_TH] at ht; first | (simp; done) | (simp; omega))
  have hx := hx.at hFk (by first | (simp; done) | (simp; omega) | (rw [mem_TH]; omega) | (rw [mem_TZ]; omega)) (by first | (simp; done) | (simp; omega) | (rw [mem_TH]; omega) | (rw [mem_TZ]; omega))
  have hy := hy.at hFk (by first | (simp; done) | (simp; omega) | (rw [mem_TH]; omega) | (rw [mem_TZ]; omega)) (by first | (simp; done) | (simp; omega) | (rw [mem_TH]; omega) | (rw [mem_TZ]; omega)) (by first | (simp; done) | (simp; omega) | (rw [mem_TH]; omega) | (rw [mem_TZ]; omega))
  rw [rkN_q hq9, show plN mo ql q9 ln fl = plN mo ql q ln fl from funext (fun _ => plN_q hq9)] at hk9
  have hk := hk9
  have hkk := hk9
  obtain ⟨ra, pa, rf, pf, hRk, hRa, hPa, hc16, hrk⟩ := hkk
  refine s_aload_n C 12 dX6_results_11 rfl rfl ?_
  refine s_getf C 15 dX6_results_12 rfl f_X6_36 hZ rfl ?_
  refine s_getf C 18 dX6_results_15 rfl f_X6_208 hRk rfl ?_
  exact s_iret C dX6_results_18 Tr rfl ⟨rfl, ⟨_, _, _, _, ⟨s, tr, h, tx, rk, sy, hZ, hs0, ⟨_, htr⟩, hh, ⟨_, _, _, _, _, hx⟩, hk, ⟨_, hy⟩, hch⟩⟩, hFk⟩

set_option maxRecDepth 100000 in
set_option maxHeartbeats 4000000 in
theorem z_result {G : mG} {M : mM} {z T mo od ql c n : Nat} {q : Nat → Int32} {ln : Nat → Nat} {fl : Nat → Nat → Int32} {us : Nat → Int32} {hs : Nat → mSt} {g : Nat → Int32} (hz : zR G M z (T, mo, od, ql, q, ln, fl, us) c hs n g) {a : Int32} : CC G iX6_result 0 0 [.ref z, .int a] M (fun r M1 => r = some (.int (if isIx a (rkN T mo od ql q ln fl us T).1 = true then nI ((rkN T mo od ql q ln fl us T).2 a.toNatClampNeg) else -1)) ∧ (∃ y1 y2 y3 y4, zA G M1 z (T, mo, od, ql, q, ln, fl, us) c hs n g (rkN T mo od ql q ln fl us T).1 (rkN T mo od ql q ln fl us T).2 (plN mo ql q ln fl) y1 y2 y3 y4) ∧ mZ [30, 31, 32] M M1) := by
  refine CC.of rfl (Nat.le_of_ble_eq_true rfl) rfl (fun X C Tr => ?_)
  show V X 0 0 0 [some (.ref z), some (.int a)] [] M
  obtain ⟨rc, rr, rp, y1, y2, y3, y4, s, tr, h, tx, rk, sy, hZ, hs0, ⟨yt, htr⟩, hh, ⟨p, cmd, val, fr, to, hx⟩, hk, ⟨yw, hy⟩, hch⟩ := hz
  obtain ⟨q9, hq9, hqn9, hsR⟩ := hs0.get
  have hsR0 := hsR
  obtain ⟨la, qa, cap, gg, ad, ifn, hS, hL, hQ, hT, hmo, hod, hql, hA⟩ := hsR
  refine s_aload_n C 1 dX6_result_0 rfl rfl ?_
  refine s_getf C 4 dX6_result_1 rfl f_X6_36 hZ rfl ?_
  refine s_aload_n C 5 dX6_result_4 rfl rfl ?_
  refine s_getf C 8 dX6_result_5 rfl f_X6_10 hZ rfl ?_
  refine s_invV C 11 0 0 [] (kR_rv hk) dX6_result_8 rfl m_X6_205 (c_rank hsR0 hk) rfl rfl rfl ⟨by decide, by decide⟩ (Nat.le_of_ble_eq_true rfl) (by omega) (by omega) ?_
  rintro _ M1 ⟨rfl, hk9, hFk⟩
  dsimp only [Option.toList, List.cons_append, List.nil_append]
  have hZ := hFk.at hZ (by first | (simp; done) | (simp; omega) | (rw [mem_TH]; omega) | (rw [mem_TZ]; omega))
  have hs0 := hs0.at hFk (by first | (simp; done) | (simp; omega) | (rw [mem_TH]; omega) | (rw [mem_TZ]; omega)) (by first | (simp; done) | (simp; omega) | (rw [mem_TH]; omega) | (rw [mem_TZ]; omega)) (fun j hj => by first | (simp; done) | (simp; omega) | (rw [mem_TH]; omega) | (rw [mem_TZ]; omega))
  have htr := htr.at hFk (by first | (simp; done) | (simp; omega) | (rw [mem_TH]; omega) | (rw [mem_TZ]; omega)) (by first | (simp; done) | (simp; omega) | (rw [mem_TH]; omega) | (rw [mem_TZ]; omega)) (fun j hj => by first | (simp; done) | (simp; omega) | (rw [mem_TH]; omega) | (rw [mem_TZ]; omega))
  have hh := hh.at hFk (by first | (simp; done) | (simp; omega) | (rw [mem_TH]; omega) | (rw [mem_TZ]; omega)) (by first | (simp; done) | (simp; omega) | (rw [mem_TH]; omega) | (rw [mem_TZ]; omega)) (by first | (simp; done) | (simp; omega) | (rw [mem_TH]; omega) | (rw [mem_TZ]; omega)) (fun t ht => by rw [mem_TH] at ht; first | (simp; done) | (simp; omega))
  have hx := hx.at hFk (by first | (simp; done) | (simp; omega) | (rw [mem_TH]; omega) | (rw [mem_TZ]; omega)) (by first | (simp; done) | (simp; omega) | (rw [mem_TH]; omega) | (rw [mem_TZ]; omega))
  have hy := hy.at hFk (by first | (simp; done) | (simp; omega) | (rw [mem_TH]; omega) | (rw [mem_TZ]; omega)) (by first | (simp; done) | (simp; omega) | (rw [mem_TH]; omega) | (rw [mem_TZ]; omega)) (by first | (simp; done) | (simp; omega) | (rw [mem_TH]; omega) | (rw [mem_TZ]; omega))
  rw [rkN_q hq9, show plN mo ql q9 ln fl = plN mo ql q ln fl from funext (fun _ => plN_q hq9)] at hk9
  have hk := hk9
  have hkk := hk9
  obtain ⟨ra, pa, rf, pf, hRk, hRa, hPa, hc16, hrk⟩ := hkk
  refine s_aload_n C 12 dX6_result_11 rfl rfl ?_
  refine s_getf C 15 dX6_result_12 rfl f_X6_36 hZ rfl ?_
  refine s_iload_n C 16 dX6_result_15 rfl rfl ?_
  refine s_invV C 19 0 0 [] (kR_rv hk) dX6_result_16 rfl m_X6_211 (c_rhas (x := a) hk) rfl rfl rfl ⟨by decide, by decide⟩ (Nat.le_of_ble_eq_true rfl) (by omega) (by omega) ?_
  rintro _ M2 ⟨rfl, rfl⟩
  dsimp only [Option.toList, List.cons_append, List.nil_append]
  refine s_if_eqB C 33 22 dX6_result_19 (by decide) rfl (fun z19 => ?_) (fun z19 => ?_)
  · skip
    have hz9 := z19
    refine s_iconst C 34 (-1) dX6_result_33 rfl (by decide) ?_
    exact s_iret C dX6_result_34 Tr rfl ⟨by rw [hz9]; rfl, ⟨_, _, _, _, ⟨s, tr, h, tx, rk, sy, hZ, hs0, ⟨_, htr⟩, hh, ⟨_, _, _, _, _, hx⟩, hk, ⟨_, hy⟩, hch⟩⟩, hFk⟩
  · skip
    obtain ⟨j, hj9, hqj⟩ := isIx_of (x := a) (c := (rkN T mo od ql q ln fl us T).1) z19 (by omega)
    subst hqj
    refine s_aload_n C 23 dX6_result_22 rfl rfl ?_
    refine s_getf C 26 dX6_result_23 rfl f_X6_36 hZ rfl ?_
    refine s_iload_n C 27 dX6_result_26 rfl rfl ?_
    refine s_invV C 30 0 0 [] (kR_rv hk) dX6_result_27 rfl m_X6_212 (c_titleAt hk hj9) rfl rfl rfl ⟨by decide, by decide⟩ (Nat.le_of_ble_eq_true rfl) (by omega) (by omega) ?_
    rintro _ M3 ⟨rfl, rfl⟩
    dsimp only [Option.toList, List.cons_append, List.nil_append]
    refine s_goto C 34 dX6_result_30 (by decide) ?_
    exact s_iret C dX6_result_34 Tr rfl ⟨by rw [nI_clamp (by omega), isIx_nI hj9 (by omega)]; rfl, ⟨_, _, _, _, ⟨s, tr, h, tx, rk, sy, hZ, hs0, ⟨_, htr⟩, hh, ⟨_, _, _, _, _, hx⟩, hk, ⟨_, hy⟩, hch⟩⟩, hFk⟩

set_option maxRecDepth 100000 in
set_option maxHeartbeats 4000000 in
theorem z_matchPlace {G : mG} {M : mM} {z T mo od ql c n : Nat} {q : Nat → Int32} {ln : Nat → Nat} {fl : Nat → Nat → Int32} {us : Nat → Int32} {hs : Nat → mSt} {g : Nat → Int32} (hz : zR G M z (T, mo, od, ql, q, ln, fl, us) c hs n g) {a : Int32} : CC G iX6_matchPlace 0 0 [.ref z, .int a] M (fun r M1 => r = some (.int (if isIx a (rkN T mo od ql q ln fl us T).1 = true then nI (plN mo ql q ln fl ((rkN T mo od ql q ln fl us T).2 a.toNatClampNeg)) else -1)) ∧ (∃ y1 y2 y3 y4, zA G M1 z (T, mo, od, ql, q, ln, fl, us) c hs n g (rkN T mo od ql q ln fl us T).1 (rkN T mo od ql q ln fl us T).2 (plN mo ql q ln fl) y1 y2 y3 y4) ∧ mZ [30, 31, 32] M M1) := by
  refine CC.of rfl (Nat.le_of_ble_eq_true rfl) rfl (fun X C Tr => ?_)
  show V X 0 0 0 [some (.ref z), some (.int a)] [] M
  obtain ⟨rc, rr, rp, y1, y2, y3, y4, s, tr, h, tx, rk, sy, hZ, hs0, ⟨yt, htr⟩, hh, ⟨p, cmd, val, fr, to, hx⟩, hk, ⟨yw, hy⟩, hch⟩ := hz
  obtain ⟨q9, hq9, hqn9, hsR⟩ := hs0.get
  have hsR0 := hsR
  obtain ⟨la, qa, cap, gg, ad, ifn, hS, hL, hQ, hT, hmo, hod, hql, hA⟩ := hsR
  refine s_aload_n C 1 dX6_matchPlace_0 rfl rfl ?_
  refine s_getf C 4 dX6_matchPlace_1 rfl f_X6_36 hZ rfl ?_
  refine s_aload_n C 5 dX6_matchPlace_4 rfl rfl ?_
  refine s_getf C 8 dX6_matchPlace_5 rfl f_X6_10 hZ rfl ?_
  refine s_invV C 11 0 0 [] (kR_rv hk) dX6_matchPlace_8 rfl m_X6_205 (c_rank hsR0 hk) rfl rfl rfl ⟨by decide, by decide⟩ (Nat.le_of_ble_eq_true rfl) (by omega) (by omega) ?_
  rintro _ M1 ⟨rfl, hk9, hFk⟩
  dsimp only [Option.toList, List.cons_append, List.nil_append]
  have hZ := hFk.at hZ (by first | (simp; done) | (simp; omega) | (rw [mem_TH]; omega) | (rw [mem_TZ]; omega))
  have hs0 := hs0.at hFk (by first | (simp; done) | (simp; omega) | (rw [mem_TH]; omega) | (rw [mem_TZ]; omega)) (by first | (simp; done) | (simp; omega) | (rw [mem_TH]; omega) | (rw [mem_TZ]; omega)) (fun j hj => by first | (simp; done) | (simp; omega) | (rw [mem_TH]; omega) | (rw [mem_TZ]; omega))
  have htr := htr.at hFk (by first | (simp; done) | (simp; omega) | (rw [mem_TH]; omega) | (rw [mem_TZ]; omega)) (by first | (simp; done) | (simp; omega) | (rw [mem_TH]; omega) | (rw [mem_TZ]; omega)) (fun j hj => by first | (simp; done) | (simp; omega) | (rw [mem_TH]; omega) | (rw [mem_TZ]; omega))
  have hh := hh.at hFk (by first | (simp; done) | (simp; omega) | (rw [mem_TH]; omega) | (rw [mem_TZ]; omega)) (by first | (simp; done) | (simp; omega) | (rw [mem_TH]; omega) | (rw [mem_TZ]; omega)) (by first | (simp; done) | (simp; omega) | (rw [mem_TH]; omega) | (rw [mem_TZ]; omega)) (fun t ht => by rw [mem_TH] at ht; first | (simp; done) | (simp; omega))
  have hx := hx.at hFk (by first | (simp; done) | (simp; omega) | (rw [mem_TH]; omega) | (rw [mem_TZ]; omega)) (by first | (simp; done) | (simp; omega) | (rw [mem_TH]; omega) | (rw [mem_TZ]; omega))
  have hy := hy.at hFk (by first | (simp; done) | (simp; omega) | (rw [mem_TH]; omega) | (rw [mem_TZ]; omega)) (by first | (simp; done) | (simp; omega) | (rw [mem_TH]; omega) | (rw [mem_TZ]; omega)) (by first | (simp; done) | (simp; omega) | (rw [mem_TH]; omega) | (rw [mem_TZ]; omega))
  rw [rkN_q hq9, show plN mo ql q9 ln fl = plN mo ql q ln fl from funext (fun _ => plN_q hq9)] at hk9
  have hk := hk9
  have hkk := hk9
  obtain ⟨ra, pa, rf, pf, hRk, hRa, hPa, hc16, hrk⟩ := hkk
  refine s_aload_n C 12 dX6_matchPlace_11 rfl rfl ?_
  refine s_getf C 15 dX6_matchPlace_12 rfl f_X6_36 hZ rfl ?_
  refine s_iload_n C 16 dX6_matchPlace_15 rfl rfl ?_
  refine s_invV C 19 0 0 [] (kR_rv hk) dX6_matchPlace_16 rfl m_X6_211 (c_rhas (x := a) hk) rfl rfl rfl ⟨by decide, by decide⟩ (Nat.le_of_ble_eq_true rfl) (by omega) (by omega) ?_
  rintro _ M2 ⟨rfl, rfl⟩
  dsimp only [Option.toList, List.cons_append, List.nil_append]
  refine s_if_eqB C 33 22 dX6_matchPlace_19 (by decide) rfl (fun z19 => ?_) (fun z19 => ?_)
  · skip
    have hz9 := z19
    refine s_iconst C 34 (-1) dX6_matchPlace_33 rfl (by decide) ?_
    exact s_iret C dX6_matchPlace_34 Tr rfl ⟨by rw [hz9]; rfl, ⟨_, _, _, _, ⟨s, tr, h, tx, rk, sy, hZ, hs0, ⟨_, htr⟩, hh, ⟨_, _, _, _, _, hx⟩, hk, ⟨_, hy⟩, hch⟩⟩, hFk⟩
  · skip
    obtain ⟨j, hj9, hqj⟩ := isIx_of (x := a) (c := (rkN T mo od ql q ln fl us T).1) z19 (by omega)
    subst hqj
    refine s_aload_n C 23 dX6_matchPlace_22 rfl rfl ?_
    refine s_getf C 26 dX6_matchPlace_23 rfl f_X6_36 hZ rfl ?_
    refine s_iload_n C 27 dX6_matchPlace_26 rfl rfl ?_
    refine s_invV C 30 0 0 [] (kR_rv hk) dX6_matchPlace_27 rfl m_X6_215 (c_placeAt hk hj9) rfl rfl rfl ⟨by decide, by decide⟩ (Nat.le_of_ble_eq_true rfl) (by omega) (by omega) ?_
    rintro _ M3 ⟨rfl, rfl⟩
    dsimp only [Option.toList, List.cons_append, List.nil_append]
    refine s_goto C 34 dX6_matchPlace_30 (by decide) ?_
    exact s_iret C dX6_matchPlace_34 Tr rfl ⟨by rw [nI_clamp (by omega), isIx_nI hj9 (by omega)]; rfl, ⟨_, _, _, _, ⟨s, tr, h, tx, rk, sy, hZ, hs0, ⟨_, htr⟩, hh, ⟨_, _, _, _, _, hx⟩, hk, ⟨_, hy⟩, hch⟩⟩, hFk⟩

set_option maxRecDepth 100000 in
set_option maxHeartbeats 4000000 in
theorem z_setMode {G : mG} {M : mM} {z T mo od ql c n : Nat} {q : Nat → Int32} {ln : Nat → Nat} {fl : Nat → Nat → Int32} {us : Nat → Int32} {hs : Nat → mSt} {g : Nat → Int32} (hz : zR G M z (T, mo, od, ql, q, ln, fl, us) c hs n g) {a : Int32} : CC G iX6_setMode 16 352 [.ref z, .int a] M (fun r M1 => r = some (.int (if (isIx a 4) = true then nI mo else -2)) ∧ zR G M1 z (if (isIx a 4) = true then (T, a.toNatClampNeg, od, ql, q, ln, fl, us) else (T, mo, od, ql, q, ln, fl, us)) (if (isIx a 4) = true then min (c + 1) 6 else c) (if (isIx a 4) = true then hPush (T, mo, od, ql, q, ln, fl, us) hs else hs) n g ∧ mZ TZ M M1) := by
  refine CC.of rfl (Nat.le_of_ble_eq_true rfl) rfl (fun X C Tr => ?_)
  show V X 16 352 0 [some (.ref z), some (.int a), none] [] M
  obtain ⟨rc, rr, rp, y1, y2, y3, y4, s, tr, h, tx, rk, sy, hZ, hs0, ⟨yt, htr⟩, hh, ⟨p, cmd, val, fr, to, hx⟩, hk, ⟨yw, hy⟩, hch⟩ := hz
  obtain ⟨q9, hq9, hqn9, hsR⟩ := hs0.get
  have hsR0 := hsR
  obtain ⟨la, qa, cap, gg, ad, ifn, hS, hL, hQ, hT, hmo, hod, hql, hA⟩ := hsR
  refine s_iload_n C 1 dX6_setMode_0 rfl rfl ?_
  refine s_if_lt C 9 4 dX6_setMode_1 (by decide) rfl (fun z1 => ?_) (fun z1 => ?_)
  · skip
    have hz9 : (isIx a 4) = false := decide_eq_false (fun q => q.1 z1)
    refine s_bipush C 11 (-2) dX6_setMode_9 rfl (by decide) ?_
    exact s_iret C dX6_setMode_11 Tr rfl ⟨by rw [hz9]; rfl, by rw [hz9]; exact ⟨_, _, _, _, _, _, _, s, tr, h, tx, rk, sy, hZ, hs0, ⟨_, htr⟩, hh, ⟨_, _, _, _, _, hx⟩, hk, ⟨_, hy⟩, hch⟩, mZ.rf⟩
  · skip
    refine s_iload_n C 5 dX6_setMode_4 rfl rfl ?_
    refine s_iconst C 6 (nI 3) dX6_setMode_5 rfl (by decide) ?_
    refine s_icmp_le C 12 9 dX6_setMode_6 (by decide) rfl (fun z6 => ?_) (fun z6 => ?_)
    · skip
      obtain ⟨j, hj9, hqj⟩ := isIx_of (x := a) (c := 4) (by unfold isIx; refine decide_eq_true ⟨z1, fun q => ?_⟩; rw [Int32.le_iff_toInt_le, nI_toInt (by omega)] at q; rw [Int32.le_iff_toInt_le, nI_toInt (by omega)] at z6; omega) (by omega)
      subst hqj
      refine s_aload_n C 13 dX6_setMode_12 rfl rfl ?_
      refine s_getf C 16 dX6_setMode_13 rfl f_X6_10 hZ rfl ?_
      refine s_getf C 19 dX6_setMode_16 rfl f_X6_97 hS rfl ?_
      refine s_istore_n C 20 dX6_setMode_19 rfl rfl rfl ?_
      dsimp only [List.set]
      refine s_aload_n C 21 dX6_setMode_20 rfl rfl ?_
      refine s_getf C 24 dX6_setMode_21 rfl f_X6_22 hZ rfl ?_
      refine s_aload_n C 25 dX6_setMode_24 rfl rfl ?_
      refine s_getf C 28 dX6_setMode_25 rfl f_X6_10 hZ rfl ?_
      refine s_invV C 31 0 0 [] (hR_rv hh) dX6_setMode_28 rfl m_X6_62 (c_save hh hs0 (by omega)) rfl rfl rfl ⟨by decide, by decide⟩ (Nat.le_of_ble_eq_true rfl) (by omega) (by omega) ?_
      rintro _ M1 ⟨rfl, hh9, hs9, hFh⟩
      dsimp only [Option.toList, List.cons_append, List.nil_append]
      have hZ := hFh.at hZ (by first | (simp; done) | (simp; omega) | (rw [mem_TH]; omega) | (rw [mem_TZ]; omega))
      have htr := htr.at hFh (by first | (simp; done) | (simp; omega) | (rw [mem_TH]; omega) | (rw [mem_TZ]; omega)) (by first | (simp; done) | (simp; omega) | (rw [mem_TH]; omega) | (rw [mem_TZ]; omega)) (fun j hj => by first | (simp; done) | (simp; omega) | (rw [mem_TH]; omega) | (rw [mem_TZ]; omega))
      have hx := hx.at hFh (by first | (simp; done) | (simp; omega) | (rw [mem_TH]; omega) | (rw [mem_TZ]; omega)) (by first | (simp; done) | (simp; omega) | (rw [mem_TH]; omega) | (rw [mem_TZ]; omega))
      have hk := hk.at hFh (by first | (simp; done) | (simp; omega) | (rw [mem_TH]; omega) | (rw [mem_TZ]; omega)) (by first | (simp; done) | (simp; omega) | (rw [mem_TH]; omega) | (rw [mem_TZ]; omega)) (by first | (simp; done) | (simp; omega) | (rw [mem_TH]; omega) | (rw [mem_TZ]; omega))
      have hy := hy.at hFh (by first | (simp; done) | (simp; omega) | (rw [mem_TH]; omega) | (rw [mem_TZ]; omega)) (by first | (simp; done) | (simp; omega) | (rw [mem_TH]; omega) | (rw [mem_TZ]; omega)) (by first | (simp; done) | (simp; omega) | (rw [mem_TH]; omega) | (rw [mem_TZ]; omega))
      have hh := hh9
      have hs0 := hs9
      obtain ⟨q9, hq9, hqn9, hsR⟩ := hs0.get
      have hsR0 := hsR
      obtain ⟨la, qa, cap, gg, ad, ifn, hS, hL, hQ, hT, hmo, hod, hql, hA⟩ := hsR
      have hF := hFh.mono (T' := TZ) (fun t ht => by rw [mem_TH] at ht; rw [mem_TZ]; omega)
      have hFs : mZ [100 + 10 * 0, 103 + 10 * 0] M1 M1 := mZ.rf
      refine s_aload_n C 32 dX6_setMode_31 rfl rfl ?_
      refine s_getf C 35 dX6_setMode_32 rfl f_X6_10 hZ rfl ?_
      refine s_iload_n C 36 dX6_setMode_35 rfl rfl ?_
      refine s_putU C 39 dX6_setMode_36 rfl p_X6_97 hS (by first | decide | omega) rfl rfl rfl (fs' := [.ref la, .ref qa, .int (nI ql), .int (nI j), .int (nI od)]) rfl (fun M2 U3 => ?_)
      have hZ := U3.o hS hZ (by first | decide | omega)
      have hQ := U3.o hS hQ (by first | decide | omega)
      have hFs := hFs.put U3 hS (by first | decide | (simp; done) | (simp; omega) | (simp [*]; done))
      have hS := U3.s
      refine s_iload_n C 40 dX6_setMode_39 rfl rfl ?_
      exact s_iret C dX6_setMode_40 Tr rfl ⟨by rw [isIx_nI hj9 (by omega)]; rfl, by rw [isIx_nI hj9 (by omega), if_pos rfl, if_pos rfl, if_pos rfl, nI_clamp (by omega)]; exact ⟨_, _, _, _, _, _, _, s, tr, h, tx, rk, sy, hZ, (sS.mk hq9 hqn9 (sR.upd hFs hS hL hQ hT (by omega) (by omega) hql hA)), ⟨_, htr.at hFs (by first | (simp; done) | (simp; omega) | (rw [mem_TH]; omega) | (rw [mem_TZ]; omega)) (by first | (simp; done) | (simp; omega) | (rw [mem_TH]; omega) | (rw [mem_TZ]; omega)) (fun j hj => by first | (simp; done) | (simp; omega) | (rw [mem_TH]; omega) | (rw [mem_TZ]; omega))⟩, (hh.at hFs (by first | (simp; done) | (simp; omega) | (rw [mem_TH]; omega) | (rw [mem_TZ]; omega)) (by first | (simp; done) | (simp; omega) | (rw [mem_TH]; omega) | (rw [mem_TZ]; omega)) (by first | (simp; done) | (simp; omega) | (rw [mem_TH]; omega) | (rw [mem_TZ]; omega)) (fun t ht => by rw [mem_TH] at ht; first | (simp; done) | (simp; omega))), ⟨_, _, _, _, _, (hx.at hFs (by first | (simp; done) | (simp; omega) | (rw [mem_TH]; omega) | (rw [mem_TZ]; omega)) (by first | (simp; done) | (simp; omega) | (rw [mem_TH]; omega) | (rw [mem_TZ]; omega)))⟩, (hk.at hFs (by first | (simp; done) | (simp; omega) | (rw [mem_TH]; omega) | (rw [mem_TZ]; omega)) (by first | (simp; done) | (simp; omega) | (rw [mem_TH]; omega) | (rw [mem_TZ]; omega)) (by first | (simp; done) | (simp; omega) | (rw [mem_TH]; omega) | (rw [mem_TZ]; omega))), ⟨_, (hy.at hFs (by first | (simp; done) | (simp; omega) | (rw [mem_TH]; omega) | (rw [mem_TZ]; omega)) (by first | (simp; done) | (simp; omega) | (rw [mem_TH]; omega) | (rw [mem_TZ]; omega)) (by first | (simp; done) | (simp; omega) | (rw [mem_TH]; omega) | (rw [mem_TZ]; omega)))⟩, hch⟩, hF.tr (hFs.mono (fun t ht => by first | (rw [mem_TH] at ht; rw [mem_TZ]; omega) | (simp at ht; done) | (rw [mem_TZ]; simp at ht; omega)))⟩
    · skip
      have hz9 : (isIx a 4) = false := decide_eq_false (fun q => q.2 (by rw [Int32.le_iff_toInt_le] at z6 ⊢; rw [nI_toInt (by omega)] at z6 ⊢; omega))
      refine s_bipush C 11 (-2) dX6_setMode_9 rfl (by decide) ?_
      exact s_iret C dX6_setMode_11 Tr rfl ⟨by rw [hz9]; rfl, by rw [hz9]; exact ⟨_, _, _, _, _, _, _, s, tr, h, tx, rk, sy, hZ, hs0, ⟨_, htr⟩, hh, ⟨_, _, _, _, _, hx⟩, hk, ⟨_, hy⟩, hch⟩, mZ.rf⟩

set_option maxRecDepth 100000 in
set_option maxHeartbeats 4000000 in
theorem z_setOrder {G : mG} {M : mM} {z T mo od ql c n : Nat} {q : Nat → Int32} {ln : Nat → Nat} {fl : Nat → Nat → Int32} {us : Nat → Int32} {hs : Nat → mSt} {g : Nat → Int32} (hz : zR G M z (T, mo, od, ql, q, ln, fl, us) c hs n g) {a : Int32} : CC G iX6_setOrder 16 352 [.ref z, .int a] M (fun r M1 => r = some (.int (if (isIx a 3) = true then nI od else -2)) ∧ zR G M1 z (if (isIx a 3) = true then (T, mo, a.toNatClampNeg, ql, q, ln, fl, us) else (T, mo, od, ql, q, ln, fl, us)) (if (isIx a 3) = true then min (c + 1) 6 else c) (if (isIx a 3) = true then hPush (T, mo, od, ql, q, ln, fl, us) hs else hs) n g ∧ mZ TZ M M1) := by
  refine CC.of rfl (Nat.le_of_ble_eq_true rfl) rfl (fun X C Tr => ?_)
  show V X 16 352 0 [some (.ref z), some (.int a), none] [] M
  obtain ⟨rc, rr, rp, y1, y2, y3, y4, s, tr, h, tx, rk, sy, hZ, hs0, ⟨yt, htr⟩, hh, ⟨p, cmd, val, fr, to, hx⟩, hk, ⟨yw, hy⟩, hch⟩ := hz
  obtain ⟨q9, hq9, hqn9, hsR⟩ := hs0.get
  have hsR0 := hsR
  obtain ⟨la, qa, cap, gg, ad, ifn, hS, hL, hQ, hT, hmo, hod, hql, hA⟩ := hsR
  refine s_iload_n C 1 dX6_setOrder_0 rfl rfl ?_
  refine s_if_lt C 9 4 dX6_setOrder_1 (by decide) rfl (fun z1 => ?_) (fun z1 => ?_)
  · skip
    have hz9 : (isIx a 3) = false := decide_eq_false (fun q => q.1 z1)
    refine s_bipush C 11 (-2) dX6_setOrder_9 rfl (by decide) ?_
    exact s_iret C dX6_setOrder_11 Tr rfl ⟨by rw [hz9]; rfl, by rw [hz9]; exact ⟨_, _, _, _, _, _, _, s, tr, h, tx, rk, sy, hZ, hs0, ⟨_, htr⟩, hh, ⟨_, _, _, _, _, hx⟩, hk, ⟨_, hy⟩, hch⟩, mZ.rf⟩
  · skip
    refine s_iload_n C 5 dX6_setOrder_4 rfl rfl ?_
    refine s_iconst C 6 (nI 2) dX6_setOrder_5 rfl (by decide) ?_
    refine s_icmp_le C 12 9 dX6_setOrder_6 (by decide) rfl (fun z6 => ?_) (fun z6 => ?_)
    · skip
      obtain ⟨j, hj9, hqj⟩ := isIx_of (x := a) (c := 3) (by unfold isIx; refine decide_eq_true ⟨z1, fun q => ?_⟩; rw [Int32.le_iff_toInt_le, nI_toInt (by omega)] at q; rw [Int32.le_iff_toInt_le, nI_toInt (by omega)] at z6; omega) (by omega)
      subst hqj
      refine s_aload_n C 13 dX6_setOrder_12 rfl rfl ?_
      refine s_getf C 16 dX6_setOrder_13 rfl f_X6_10 hZ rfl ?_
      refine s_getf C 19 dX6_setOrder_16 rfl f_X6_100 hS rfl ?_
      refine s_istore_n C 20 dX6_setOrder_19 rfl rfl rfl ?_
      dsimp only [List.set]
      refine s_aload_n C 21 dX6_setOrder_20 rfl rfl ?_
      refine s_getf C 24 dX6_setOrder_21 rfl f_X6_22 hZ rfl ?_
      refine s_aload_n C 25 dX6_setOrder_24 rfl rfl ?_
      refine s_getf C 28 dX6_setOrder_25 rfl f_X6_10 hZ rfl ?_
      refine s_invV C 31 0 0 [] (hR_rv hh) dX6_setOrder_28 rfl m_X6_62 (c_save hh hs0 (by omega)) rfl rfl rfl ⟨by decide, by decide⟩ (Nat.le_of_ble_eq_true rfl) (by omega) (by omega) ?_
      rintro _ M1 ⟨rfl, hh9, hs9, hFh⟩
      dsimp only [Option.toList, List.cons_append, List.nil_append]
      have hZ := hFh.at hZ (by first | (simp; done) | (simp; omega) | (rw [mem_TH]; omega) | (rw [mem_TZ]; omega))
      have htr := htr.at hFh (by first | (simp; done) | (simp; omega) | (rw [mem_TH]; omega) | (rw [mem_TZ]; omega)) (by first | (simp; done) | (simp; omega) | (rw [mem_TH]; omega) | (rw [mem_TZ]; omega)) (fun j hj => by first | (simp; done) | (simp; omega) | (rw [mem_TH]; omega) | (rw [mem_TZ]; omega))
      have hx := hx.at hFh (by first | (simp; done) | (simp; omega) | (rw [mem_TH]; omega) | (rw [mem_TZ]; omega)) (by first | (simp; done) | (simp; omega) | (rw [mem_TH]; omega) | (rw [mem_TZ]; omega))
      have hk := hk.at hFh (by first | (simp; done) | (simp; omega) | (rw [mem_TH]; omega) | (rw [mem_TZ]; omega)) (by first | (simp; done) | (simp; omega) | (rw [mem_TH]; omega) | (rw [mem_TZ]; omega)) (by first | (simp; done) | (simp; omega) | (rw [mem_TH]; omega) | (rw [mem_TZ]; omega))
      have hy := hy.at hFh (by first | (simp; done) | (simp; omega) | (rw [mem_TH]; omega) | (rw [mem_TZ]; omega)) (by first | (simp; done) | (simp; omega) | (rw [mem_TH]; omega) | (rw [mem_TZ]; omega)) (by first | (simp; done) | (simp; omega) | (rw [mem_TH]; omega) | (rw [mem_TZ]; omega))
      have hh := hh9
      have hs0 := hs9
      obtain ⟨q9, hq9, hqn9, hsR⟩ := hs0.get
      have hsR0 := hsR
      obtain ⟨la, qa, cap, gg, ad, ifn, hS, hL, hQ, hT, hmo, hod, hql, hA⟩ := hsR
      have hF := hFh.mono (T' := TZ) (fun t ht => by rw [mem_TH] at ht; rw [mem_TZ]; omega)
      have hFs : mZ [100 + 10 * 0, 103 + 10 * 0] M1 M1 := mZ.rf
      refine s_aload_n C 32 dX6_setOrder_31 rfl rfl ?_
      refine s_getf C 35 dX6_setOrder_32 rfl f_X6_10 hZ rfl ?_
      refine s_iload_n C 36 dX6_setOrder_35 rfl rfl ?_
      refine s_putU C 39 dX6_setOrder_36 rfl p_X6_100 hS (by first | decide | omega) rfl rfl rfl (fs' := [.ref la, .ref qa, .int (nI ql), .int (nI mo), .int (nI j)]) rfl (fun M2 U3 => ?_)
      have hZ := U3.o hS hZ (by first | decide | omega)
      have hQ := U3.o hS hQ (by first | decide | omega)
      have hFs := hFs.put U3 hS (by first | decide | (simp; done) | (simp; omega) | (simp [*]; done))
      have hS := U3.s
      refine s_iload_n C 40 dX6_setOrder_39 rfl rfl ?_
      exact s_iret C dX6_setOrder_40 Tr rfl ⟨by rw [isIx_nI hj9 (by omega)]; rfl, by rw [isIx_nI hj9 (by omega), if_pos rfl, if_pos rfl, if_pos rfl, nI_clamp (by omega)]; exact ⟨_, _, _, _, _, _, _, s, tr, h, tx, rk, sy, hZ, (sS.mk hq9 hqn9 (sR.upd hFs hS hL hQ hT (by omega) (by omega) hql hA)), ⟨_, htr.at hFs (by first | (simp; done) | (simp; omega) | (rw [mem_TH]; omega) | (rw [mem_TZ]; omega)) (by first | (simp; done) | (simp; omega) | (rw [mem_TH]; omega) | (rw [mem_TZ]; omega)) (fun j hj => by first | (simp; done) | (simp; omega) | (rw [mem_TH]; omega) | (rw [mem_TZ]; omega))⟩, (hh.at hFs (by first | (simp; done) | (simp; omega) | (rw [mem_TH]; omega) | (rw [mem_TZ]; omega)) (by first | (simp; done) | (simp; omega) | (rw [mem_TH]; omega) | (rw [mem_TZ]; omega)) (by first | (simp; done) | (simp; omega) | (rw [mem_TH]; omega) | (rw [mem_TZ]; omega)) (fun t ht => by rw [mem_TH] at ht; first | (simp; done) | (simp; omega))), ⟨_, _, _, _, _, (hx.at hFs (by first | (simp; done) | (simp; omega) | (rw [mem_TH]; omega) | (rw [mem_TZ]; omega)) (by first | (simp; done) | (simp; omega) | (rw [mem_TH]; omega) | (rw [mem_TZ]; omega)))⟩, (hk.at hFs (by first | (simp; done) | (simp; omega) | (rw [mem_TH]; omega) | (rw [mem_TZ]; omega)) (by first | (simp; done) | (simp; omega) | (rw [mem_TH]; omega) | (rw [mem_TZ]; omega)) (by first | (simp; done) | (simp; omega) | (rw [mem_TH]; omega) | (rw [mem_TZ]; omega))), ⟨_, (hy.at hFs (by first | (simp; done) | (simp; omega) | (rw [mem_TH]; omega) | (rw [mem_TZ]; omega)) (by first | (simp; done) | (simp; omega) | (rw [mem_TH]; omega) | (rw [mem_TZ]; omega)) (by first | (simp; done) | (simp; omega) | (rw [mem_TH]; omega) | (rw [mem_TZ]; omega)))⟩, hch⟩, hF.tr (hFs.mono (fun t ht => by first | (rw [mem_TH] at ht; rw [mem_TZ]; omega) | (simp at ht; done) | (rw [mem_TZ]; simp at ht; omega)))⟩
    · skip
      have hz9 : (isIx a 3) = false := decide_eq_false (fun q => q.2 (by rw [Int32.le_iff_toInt_le] at z6 ⊢; rw [nI_toInt (by omega)] at z6 ⊢; omega))
      refine s_bipush C 11 (-2) dX6_setOrder_9 rfl (by decide) ?_
      exact s_iret C dX6_setOrder_11 Tr rfl ⟨by rw [hz9]; rfl, by rw [hz9]; exact ⟨_, _, _, _, _, _, _, s, tr, h, tx, rk, sy, hZ, hs0, ⟨_, htr⟩, hh, ⟨_, _, _, _, _, hx⟩, hk, ⟨_, hy⟩, hch⟩, mZ.rf⟩
