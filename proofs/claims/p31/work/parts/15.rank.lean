/-! pure words: the results in their order -/
theorem nI_dec {i : Nat} (h : 0 < i) : nI i + Int32.ofInt (-1) = nI (i - 1) := by
  rw [← pk_sub (a := i) (b := 1) h, Int32.sub_eq_add_neg]
  rfl
/-- where a new result goes among the first k -/
def insK (B : Nat → Bool) (r : Nat → Nat) : Nat → Nat
  | 0 => 0
  | k + 1 => if B (r k) = true then insK B r k else k + 1
def insR (r : Nat → Nat) (p x : Nat) : Nat → Nat := fun j => if j < p then r j else if j = p then x else r (j - 1)
def rkS (B : Nat → Nat → Bool) (pm : Nat → Option Nat) : Nat → Nat × (Nat → Nat)
  | 0 => (0, fun _ => 0)
  | t + 1 => if (pm t).isSome = true then ((rkS B pm t).1 + 1, insR (rkS B pm t).2 (insK (B t) (rkS B pm t).2 (rkS B pm t).1) t) else rkS B pm t
theorem insK_le {B : Nat → Bool} {r : Nat → Nat} : ∀ k, insK B r k ≤ k
  | 0 => Nat.le_refl _
  | k + 1 => by
    rw [insK]
    split
    · exact Nat.le_succ_of_le (insK_le k)
    · exact Nat.le_refl _
theorem insK_t {B : Nat → Bool} {r : Nat → Nat} {k : Nat} (h0 : 0 < k) (h : B (r (k - 1)) = true) : insK B r k = insK B r (k - 1) := by
  cases k with
  | zero => omega
  | succ k => rw [insK, if_pos (by simpa using h)]; rfl
theorem insK_f {B : Nat → Bool} {r : Nat → Nat} {k : Nat} (h0 : 0 < k) (h : B (r (k - 1)) = false) : insK B r k = k := by
  cases k with
  | zero => omega
  | succ k => rw [insK, if_neg (by rw [show k + 1 - 1 = k from rfl] at h; rw [h]; decide)]
theorem insR_in {r : Nat → Nat} {p x c : Nat} {P : Nat → Prop} (hp : p ≤ c) (hx : P x) (h : ∀ j, j < c → P (r j)) : ∀ j, j < c + 1 → P (insR r p x j) := by
  intro j hj
  unfold insR
  split
  · exact h j (by omega)
  · split
    · exact hx
    · exact h (j - 1) (by omega)
theorem rkS_in {B : Nat → Nat → Bool} {pm : Nat → Option Nat} : ∀ t, (rkS B pm t).1 ≤ t ∧ ∀ k, k < (rkS B pm t).1 → (rkS B pm t).2 k < t ∧ (pm ((rkS B pm t).2 k)).isSome = true := by
  intro t
  induction t with
  | zero => exact ⟨Nat.le_refl _, fun k hk => absurd hk (Nat.not_lt_zero _)⟩
  | succ t ih =>
    rw [rkS]
    split
    · rename_i h
      refine ⟨Nat.succ_le_succ ih.1, ?_⟩
      exact insR_in (P := fun y => y < t + 1 ∧ (pm y).isSome = true) (insK_le _) ⟨Nat.lt_succ_self _, h⟩ (fun j hj => ⟨Nat.lt_succ_of_lt (ih.2 j hj).1, (ih.2 j hj).2⟩)
    · exact ⟨Nat.le_succ_of_le ih.1, fun k hk => ⟨Nat.lt_succ_of_lt (ih.2 k hk).1, (ih.2 k hk).2⟩⟩
theorem oI_lt {o : Option Nat} (h : ∀ j, o = some j → j < 100000) : oI o < 0 ↔ o = none := by
  cases o with
  | none => exact ⟨fun _ => rfl, fun _ => by decide⟩
  | some j =>
    refine ⟨fun q => ?_, fun q => by cases q⟩
    rw [oI, Int32.lt_iff_toInt_lt, nI_toInt (by have := h j rfl; omega), Int32.toInt_zero] at q
    omega
theorem plc_lt {mo n m : Nat} {f ini q : Nat → Int32} {len j : Nat} (h : plc mo n m f ini q len = some j) : j + len ≤ rN mo n m := by
  unfold plc at h
  have := (fnd_some _ _ _).mp h
  omega
theorem pmO_lt {mo ql : Nat} {q : Nat → Int32} {n : Nat} {f : Nat → Int32} (hn : n ≤ 24) : ∀ j, pmO mo ql q n f = some j → j < 26 := by
  intro j h
  unfold pmO at h
  split at h
  · cases h; omega
  · have h1 := plc_lt h
    have h2 := cnB_le (f := f) n
    unfold rN at h1
    split at h1 <;> omega
/-- the results: of a state -/
def rkN (T mo od ql : Nat) (q : Nat → Int32) (ln : Nat → Nat) (fl : Nat → Nat → Int32) (us : Nat → Int32) (t : Nat) : Nat × (Nat → Nat) :=
  rkS (fun x y => cbB od x ((pmO mo ql q (ln x) (fl x)).getD 0) y ((pmO mo ql q (ln y) (fl y)).getD 0) ln fl us) (fun x => pmO mo ql q (ln x) (fl x)) t
def plN (mo ql : Nat) (q : Nat → Int32) (ln : Nat → Nat) (fl : Nat → Nat → Int32) (t : Nat) : Nat := (pmO mo ql q (ln t) (fl t)).getD 0
/-- Ranking's cells -/
def kR (M : mM) (r c : Nat) (rk pl : Nat → Nat) : Prop := ∃ (ra pa : Nat) (rf pf : Nat → Int32), M r = some (30, .inl (2, [.ref ra, .ref pa, .int (nI c)])) ∧ M ra = some (31, .inr (0, 16, .inl rf)) ∧ M pa = some (32, .inr (0, 16, .inl pf)) ∧ c ≤ 16 ∧ ∀ k, k < c → rf k = nI (rk k) ∧ pf k = nI (pl (rk k))
theorem kR.at {T : List Nat} {M M1 : mM} {r c : Nat} {rk pl : Nat → Nat} (hF : mZ T M M1) (h0 : 30 ∉ T) (h1 : 31 ∉ T) (h2 : 32 ∉ T) (h : kR M r c rk pl) : kR M1 r c rk pl := by
  obtain ⟨ra, pa, rf, pf, g1, g2, g3, g4⟩ := h
  exact ⟨ra, pa, rf, pf, hF.at g1 h0, hF.at g2 h1, hF.at g3 h2, g4⟩
theorem kR_rv {G : mG} {M : mM} {r c : Nat} {rk pl : Nat → Nat} (h : kR M r c rk pl) : mRv G M RX1 r := by
  obtain ⟨ra, pa, rf, pf, h1, -⟩ := h
  exact mRv_of h1 rfl
set_option maxRecDepth 100000 in
set_option maxHeartbeats 4000000 in
theorem c_rhas {G : mG} {M : mM} {r c : Nat} {rk pl : Nat → Nat} (hk : kR M r c rk pl) {x : Int32} : CC G iX1_has 0 0 [.ref r, .int x] M (fun v M1 => v = some (.int (mB (isIx x c))) ∧ M = M1) := by
  refine CC.of rfl (Nat.le_of_ble_eq_true rfl) rfl (fun X C Tr => ?_)
  show V X 0 0 0 [some (.ref r), some (.int x)] [] M
  obtain ⟨ra, pa, rf, pf, hR, hA1, hP1, hc16, hkk⟩ := hk
  refine s_iload_n C 1 dX1_has_0 rfl rfl ?_
  refine s_if_lt C 25 4 dX1_has_1 (by decide) rfl (fun z1 => ?_) (fun z1 => ?_)
  · skip
    refine s_iconst C 26 (nI 0) dX1_has_25 rfl (by decide) ?_
    exact s_zret C dX1_has_26 Tr rfl (by decide) ⟨rF (by simp [isIx, *]), rfl⟩
  · skip
    refine s_iload_n C 5 dX1_has_4 rfl rfl ?_
    refine s_aload_n C 6 dX1_has_5 rfl rfl ?_
    refine s_getf C 9 dX1_has_6 rfl f_X1_18 hR rfl ?_
    refine s_icmp_ge C 25 12 dX1_has_9 (by decide) rfl (fun z9 => ?_) (fun z9 => ?_)
    · skip
      refine s_iconst C 26 (nI 0) dX1_has_25 rfl (by decide) ?_
      exact s_zret C dX1_has_26 Tr rfl (by decide) ⟨rF (by simp [isIx, *]), rfl⟩
    · skip
      have hxx : x < nI 16 := by rw [Int32.lt_iff_toInt_lt, nI_toInt (by omega)]; rw [i32_nle, Int32.lt_iff_toInt_lt, nI_toInt (by omega)] at z9; omega
      refine s_iload_n C 13 dX1_has_12 rfl rfl ?_
      refine s_aload_n C 14 dX1_has_13 rfl rfl ?_
      refine s_getf C 17 dX1_has_14 rfl f_X1_9 hR rfl ?_
      refine s_alen C 18 dX1_has_17 rfl hA1 (by decide) ?_
      refine s_icmp_ge C 25 21 dX1_has_18 (by decide) rfl (fun z18 => ?_) (fun z18 => ?_)
      · skip
        exact absurd hxx (i32_le.mp z18)
      · skip
        refine s_iconst C 22 (nI 1) dX1_has_21 rfl (by decide) ?_
        refine s_goto C 26 dX1_has_22 (by decide) ?_
        exact s_zret C dX1_has_26 Tr rfl (by decide) ⟨rT (by simp [isIx, *]), rfl⟩

theorem isIx_nI {k c : Nat} (h : k < c) (hc : c < 2 ^ 31) : isIx (nI k) c = true := by
  unfold isIx
  refine decide_eq_true ⟨?_, ?_⟩
  · rw [Int32.lt_iff_toInt_lt, nI_toInt (by omega), Int32.toInt_zero]; omega
  · rw [Int32.le_iff_toInt_le, nI_toInt (by omega), nI_toInt (by omega)]; omega
theorem isIx_of {x : Int32} {c : Nat} (h : isIx x c = true) (hc : c < 2 ^ 31) : ∃ k, k < c ∧ x = nI k := by
  obtain ⟨h1, h2⟩ := of_decide_eq_true h
  obtain ⟨j, hj, rfl⟩ := nI_of h1
  refine ⟨j, ?_, rfl⟩
  rw [Int32.le_iff_toInt_le, nI_toInt (by omega), nI_toInt (by omega)] at h2
  omega
set_option maxRecDepth 100000 in
set_option maxHeartbeats 4000000 in
theorem c_titleAt {G : mG} {M : mM} {r c : Nat} {rk pl : Nat → Nat} (hk : kR M r c rk pl) {k : Nat} (hk1 : k < c) : CC G iX1_titleAt 0 0 [.ref r, .int (nI k)] M (fun v M1 => v = some (.int (nI (rk k))) ∧ M = M1) := by
  refine CC.of rfl (Nat.le_of_ble_eq_true rfl) rfl (fun X C Tr => ?_)
  show V X 0 0 0 [some (.ref r), some (.int (nI k))] [] M
  obtain ⟨ra, pa, rf, pf, hR, hA1, hP1, hc16, hkk⟩ := hk
  refine s_aload_n C 1 dX1_titleAt_0 rfl rfl ?_
  refine s_iload_n C 2 dX1_titleAt_1 rfl rfl ?_
  refine s_invV C 5 0 0 [] (mRv_of hR rfl) dX1_titleAt_2 rfl m_X1_46 (c_rhas ⟨ra, pa, rf, pf, hR, hA1, hP1, hc16, hkk⟩) rfl rfl rfl ⟨by decide, by decide⟩ (Nat.le_of_ble_eq_true rfl) (by omega) (by omega) ?_
  rintro _ M1 ⟨rfl, rfl⟩
  dsimp only [Option.toList, List.cons_append, List.nil_append]
  refine s_if_eqB C 17 8 dX1_titleAt_5 (by decide) rfl (fun z5 => ?_) (fun z5 => ?_)
  · skip
    exact absurd z5 (by rw [isIx_nI hk1 (by omega)]; decide)
  · skip
    refine s_aload_n C 9 dX1_titleAt_8 rfl rfl ?_
    refine s_getf C 12 dX1_titleAt_9 rfl f_X1_9 hR rfl ?_
    refine s_iload_n C 13 dX1_titleAt_12 rfl rfl ?_
    refine s_iald C 14 dX1_titleAt_13 rfl hA1 (by omega) (by omega) ?_
    refine s_goto C 18 dX1_titleAt_14 (by decide) ?_
    exact s_iret C dX1_titleAt_18 Tr rfl ⟨by rw [(hkk k hk1).1], rfl⟩

set_option maxRecDepth 100000 in
set_option maxHeartbeats 4000000 in
theorem c_placeAt {G : mG} {M : mM} {r c : Nat} {rk pl : Nat → Nat} (hk : kR M r c rk pl) {k : Nat} (hk1 : k < c) : CC G iX1_placeAt 0 0 [.ref r, .int (nI k)] M (fun v M1 => v = some (.int (nI (pl (rk k)))) ∧ M = M1) := by
  refine CC.of rfl (Nat.le_of_ble_eq_true rfl) rfl (fun X C Tr => ?_)
  show V X 0 0 0 [some (.ref r), some (.int (nI k))] [] M
  obtain ⟨ra, pa, rf, pf, hR, hA1, hP1, hc16, hkk⟩ := hk
  refine s_aload_n C 1 dX1_placeAt_0 rfl rfl ?_
  refine s_iload_n C 2 dX1_placeAt_1 rfl rfl ?_
  refine s_invV C 5 0 0 [] (mRv_of hR rfl) dX1_placeAt_2 rfl m_X1_46 (c_rhas ⟨ra, pa, rf, pf, hR, hA1, hP1, hc16, hkk⟩) rfl rfl rfl ⟨by decide, by decide⟩ (Nat.le_of_ble_eq_true rfl) (by omega) (by omega) ?_
  rintro _ M1 ⟨rfl, rfl⟩
  dsimp only [Option.toList, List.cons_append, List.nil_append]
  refine s_if_eqB C 17 8 dX1_placeAt_5 (by decide) rfl (fun z5 => ?_) (fun z5 => ?_)
  · skip
    exact absurd z5 (by rw [isIx_nI hk1 (by omega)]; decide)
  · skip
    refine s_aload_n C 9 dX1_placeAt_8 rfl rfl ?_
    refine s_getf C 12 dX1_placeAt_9 rfl f_X1_15 hR rfl ?_
    refine s_iload_n C 13 dX1_placeAt_12 rfl rfl ?_
    refine s_iald C 14 dX1_placeAt_13 rfl hP1 (by omega) (by omega) ?_
    refine s_goto C 18 dX1_placeAt_14 (by decide) ?_
    exact s_iret C dX1_placeAt_18 Tr rfl ⟨by rw [(hkk k hk1).2], rfl⟩

set_option maxRecDepth 100000 in
set_option maxHeartbeats 4000000 in
theorem c_insert {G : mG} {M : mM} {k s T mo od ql : Nat} {q : Nat → Int32} {ln : Nat → Nat} {fl : Nat → Nat → Int32} {us : Nat → Int32} (hs : sR G M k s T mo od ql q ln fl us) {r c t : Nat} {rk pl : Nat → Nat} (hk : kR M r c rk pl) (hc : c < 16) (ht : t < T) (hpt : pl t < 1000) (hrk : ∀ j, j < c → rk j < T ∧ pl (rk j) < 1000) : CC G iX1_insert 0 0 [.ref r, .ref s, .int (nI t), .int (nI (pl t))] M (fun v M1 => v = none ∧ kR M1 r (c + 1) (insR rk (insK (fun y => cbB od t (pl t) y (pl y) ln fl us) rk c) t) pl ∧ mZ [30, 31, 32] M M1) := by
  refine CC.of rfl (Nat.le_of_ble_eq_true rfl) rfl (fun X C Tr => ?_)
  show V X 0 0 0 [some (.ref r), some (.ref s), some (.int (nI t)), some (.int (nI (pl t))), none] [] M
  obtain ⟨ra, pa, rf, pf, hR, hA1, hP1, hc16, hkk⟩ := hk
  have hF : mZ [30, 31, 32] M M := mZ.rf
  refine s_aload_n C 1 dX1_insert_0 rfl rfl ?_
  refine s_getf C 4 dX1_insert_1 rfl f_X1_18 hR rfl ?_
  refine s_istore C 6 dX1_insert_4 rfl rfl rfl ?_
  dsimp only [List.set]
  suffices lp6 : ∀ (fu6 : Nat) (i : Nat) (rf9 pf9 : Nat → Int32) (M9 : mM), i < fu6 → i ≤ c → insK (fun y => cbB od t (pl t) y (pl y) ln fl us) rk c = insK (fun y => cbB od t (pl t) y (pl y) ln fl us) rk i → (∀ j, j < i → rf9 j = nI (rk j) ∧ pf9 j = nI (pl (rk j))) → (∀ j, i < j → j ≤ c → rf9 j = nI (rk (j - 1)) ∧ pf9 j = nI (pl (rk (j - 1)))) → M9 r = some (30, .inl (2, [.ref ra, .ref pa, .int (nI c)])) → M9 ra = some (31, .inr (0, 16, .inl rf9)) → M9 pa = some (32, .inr (0, 16, .inl pf9)) → mZ [30, 31, 32] M M9 → V X 0 0 6 [some (.ref r), some (.ref s), some (.int (nI t)), some (.int (nI (pl t))), some (.int (nI i))] [] M9 from lp6 (c + 1) c rf pf M (by omega) (by omega) rfl hkk (fun j h1 h2 => by omega) hR hA1 hP1 hF
  intro fu6
  induction fu6 with
  | zero => intro i rf9 pf9 M9 hi0 hi hK hlo hhi hR hA1 hP1 hF; omega
  | succ fu6 ih6 =>
    intro i rf9 pf9 M9 hi0 hi hK hlo hhi hR hA1 hP1 hF
    have hSs := hs.at hF (by simp) (by simp) (by simp; omega) (by simp; omega) (by simp; omega) (by simp; omega)
    refine s_iload C 8 dX1_insert_6 rfl rfl ?_
    refine s_if_leN C 76 11 dX1_insert_8 (by decide) rfl (by omega) (fun z8 => ?_) (fun z8 => ?_)
    · skip
      have hz0 : i = 0 := by omega
      have hz : insK (fun y => cbB od t (pl t) y (pl y) ln fl us) rk c = i := by rw [hK, hz0]; rfl
      refine s_aload_n C 77 dX1_insert_76 rfl rfl ?_
      refine s_getf C 80 dX1_insert_77 rfl f_X1_9 hR rfl ?_
      refine s_iload C 82 dX1_insert_80 rfl rfl ?_
      refine s_iload_n C 83 dX1_insert_82 rfl rfl ?_
      refine s_iastU C 84 dX1_insert_83 rfl hA1 (by first | decide | omega) (by omega) (by omega) (fun M1 U2 => ?_)
      have hR := U2.o hA1 hR (by first | decide | omega)
      have hP1 := U2.o hA1 hP1 (by first | decide | omega)
      have hF := hF.put U2 hA1 (by first | decide | (simp; done) | (simp; omega) | (simp [*]; done))
      have hA1 := U2.s
      refine s_aload_n C 85 dX1_insert_84 rfl rfl ?_
      refine s_getf C 88 dX1_insert_85 rfl f_X1_15 hR rfl ?_
      refine s_iload C 90 dX1_insert_88 rfl rfl ?_
      refine s_iload_n C 91 dX1_insert_90 rfl rfl ?_
      refine s_iastU C 92 dX1_insert_91 rfl hP1 (by first | decide | omega) (by omega) (by omega) (fun M3 U4 => ?_)
      have hR := U4.o hP1 hR (by first | decide | omega)
      have hA1 := U4.o hP1 hA1 (by first | decide | omega)
      have hF := hF.put U4 hP1 (by first | decide | (simp; done) | (simp; omega) | (simp [*]; done))
      have hP1 := U4.s
      refine s_aload_n C 93 dX1_insert_92 rfl rfl ?_
      refine s_dup C 94 dX1_insert_93 rfl rfl ?_
      refine s_getf C 97 dX1_insert_94 rfl f_X1_18 hR rfl ?_
      refine s_iconst C 98 (nI 1) dX1_insert_97 rfl (by decide) ?_
      refine s_iaddN C 99 dX1_insert_98 rfl ?_
      refine s_putU C 102 dX1_insert_99 rfl p_X1_18 hR (by first | decide | omega) rfl rfl rfl (fs' := [.ref ra, .ref pa, .int (nI (c + 1))]) rfl (fun M5 U6 => ?_)
      have hA1 := U6.o hR hA1 (by first | decide | omega)
      have hP1 := U6.o hR hP1 (by first | decide | omega)
      have hF := hF.put U6 hR (by first | decide | (simp; done) | (simp; omega) | (simp [*]; done))
      have hR := U6.s
      exact s_vret C dX1_insert_102 Tr rfl ⟨rfl, ⟨ra, pa, _, _, hR, hA1, hP1, by omega, fun j hj => by rw [hz]; unfold insR; by_cases e1 : j < i; (· rw [if_pos e1, pk_un (by omega), pk_un (by omega)]; exact hlo j e1); rw [if_neg e1]; by_cases e2 : j = i; (· rw [if_pos e2, e2, pk_us, pk_us]; exact ⟨rfl, rfl⟩); rw [if_neg e2, pk_un e2, pk_un e2]; exact hhi j (by omega) (by omega)⟩, hF⟩
    · skip
      refine s_aload_n C 12 dX1_insert_11 rfl rfl ?_
      refine s_iload_n C 13 dX1_insert_12 rfl rfl ?_
      refine s_iload_n C 14 dX1_insert_13 rfl rfl ?_
      refine s_aload_n C 15 dX1_insert_14 rfl rfl ?_
      refine s_getf C 18 dX1_insert_15 rfl f_X1_9 hR rfl ?_
      refine s_iload C 20 dX1_insert_18 rfl rfl ?_
      refine s_iconst C 21 (nI 1) dX1_insert_20 rfl (by decide) ?_
      refine s_isubN C 22 dX1_insert_21 rfl (by omega) ?_
      refine s_iald C 23 dX1_insert_22 rfl hA1 (by omega) (by omega) ?_
      rw [(hlo (i - 1) (by omega)).1]
      refine s_aload_n C 24 dX1_insert_23 rfl rfl ?_
      refine s_getf C 27 dX1_insert_24 rfl f_X1_15 hR rfl ?_
      refine s_iload C 29 dX1_insert_27 rfl rfl ?_
      refine s_iconst C 30 (nI 1) dX1_insert_29 rfl (by decide) ?_
      refine s_isubN C 31 dX1_insert_30 rfl (by omega) ?_
      refine s_iald C 32 dX1_insert_31 rfl hP1 (by omega) (by omega) ?_
      rw [(hlo (i - 1) (by omega)).2]
      refine s_invV C 35 0 0 [] (sR_rv hSs) dX1_insert_32 rfl m_X1_42 (c_comesBefore hSs ht (hrk _ (by omega)).1 hpt (hrk _ (by omega)).2) rfl rfl rfl ⟨by decide, by decide⟩ (Nat.le_of_ble_eq_true rfl) (by omega) (by omega) ?_
      rintro _ M7 ⟨rfl, rfl⟩
      dsimp only [Option.toList, List.cons_append, List.nil_append]
      refine s_if_eqB C 76 38 dX1_insert_35 (by decide) rfl (fun z35 => ?_) (fun z35 => ?_)
      · skip
        have hz : insK (fun y => cbB od t (pl t) y (pl y) ln fl us) rk c = i := by rw [hK]; exact insK_f (by omega) (by exact z35)
        refine s_aload_n C 77 dX1_insert_76 rfl rfl ?_
        refine s_getf C 80 dX1_insert_77 rfl f_X1_9 hR rfl ?_
        refine s_iload C 82 dX1_insert_80 rfl rfl ?_
        refine s_iload_n C 83 dX1_insert_82 rfl rfl ?_
        refine s_iastU C 84 dX1_insert_83 rfl hA1 (by first | decide | omega) (by omega) (by omega) (fun M8 U9 => ?_)
        have hR := U9.o hA1 hR (by first | decide | omega)
        have hP1 := U9.o hA1 hP1 (by first | decide | omega)
        have hF := hF.put U9 hA1 (by first | decide | (simp; done) | (simp; omega) | (simp [*]; done))
        have hA1 := U9.s
        refine s_aload_n C 85 dX1_insert_84 rfl rfl ?_
        refine s_getf C 88 dX1_insert_85 rfl f_X1_15 hR rfl ?_
        refine s_iload C 90 dX1_insert_88 rfl rfl ?_
        refine s_iload_n C 91 dX1_insert_90 rfl rfl ?_
        refine s_iastU C 92 dX1_insert_91 rfl hP1 (by first | decide | omega) (by omega) (by omega) (fun M10 U11 => ?_)
        have hR := U11.o hP1 hR (by first | decide | omega)
        have hA1 := U11.o hP1 hA1 (by first | decide | omega)
        have hF := hF.put U11 hP1 (by first | decide | (simp; done) | (simp; omega) | (simp [*]; done))
        have hP1 := U11.s
        refine s_aload_n C 93 dX1_insert_92 rfl rfl ?_
        refine s_dup C 94 dX1_insert_93 rfl rfl ?_
        refine s_getf C 97 dX1_insert_94 rfl f_X1_18 hR rfl ?_
        refine s_iconst C 98 (nI 1) dX1_insert_97 rfl (by decide) ?_
        refine s_iaddN C 99 dX1_insert_98 rfl ?_
        refine s_putU C 102 dX1_insert_99 rfl p_X1_18 hR (by first | decide | omega) rfl rfl rfl (fs' := [.ref ra, .ref pa, .int (nI (c + 1))]) rfl (fun M12 U13 => ?_)
        have hA1 := U13.o hR hA1 (by first | decide | omega)
        have hP1 := U13.o hR hP1 (by first | decide | omega)
        have hF := hF.put U13 hR (by first | decide | (simp; done) | (simp; omega) | (simp [*]; done))
        have hR := U13.s
        exact s_vret C dX1_insert_102 Tr rfl ⟨rfl, ⟨ra, pa, _, _, hR, hA1, hP1, by omega, fun j hj => by rw [hz]; unfold insR; by_cases e1 : j < i; (· rw [if_pos e1, pk_un (by omega), pk_un (by omega)]; exact hlo j e1); rw [if_neg e1]; by_cases e2 : j = i; (· rw [if_pos e2, e2, pk_us, pk_us]; exact ⟨rfl, rfl⟩); rw [if_neg e2, pk_un e2, pk_un e2]; exact hhi j (by omega) (by omega)⟩, hF⟩
      · skip
        refine s_aload_n C 39 dX1_insert_38 rfl rfl ?_
        refine s_getf C 42 dX1_insert_39 rfl f_X1_9 hR rfl ?_
        refine s_iload C 44 dX1_insert_42 rfl rfl ?_
        refine s_aload_n C 45 dX1_insert_44 rfl rfl ?_
        refine s_getf C 48 dX1_insert_45 rfl f_X1_9 hR rfl ?_
        refine s_iload C 50 dX1_insert_48 rfl rfl ?_
        refine s_iconst C 51 (nI 1) dX1_insert_50 rfl (by decide) ?_
        refine s_isubN C 52 dX1_insert_51 rfl (by omega) ?_
        refine s_iald C 53 dX1_insert_52 rfl hA1 (by omega) (by omega) ?_
        refine s_iastU C 54 dX1_insert_53 rfl hA1 (by first | decide | omega) (by omega) (by omega) (fun M14 U15 => ?_)
        have hR := U15.o hA1 hR (by first | decide | omega)
        have hP1 := U15.o hA1 hP1 (by first | decide | omega)
        have hF := hF.put U15 hA1 (by first | decide | (simp; done) | (simp; omega) | (simp [*]; done))
        have hA1 := U15.s
        refine s_aload_n C 55 dX1_insert_54 rfl rfl ?_
        refine s_getf C 58 dX1_insert_55 rfl f_X1_15 hR rfl ?_
        refine s_iload C 60 dX1_insert_58 rfl rfl ?_
        refine s_aload_n C 61 dX1_insert_60 rfl rfl ?_
        refine s_getf C 64 dX1_insert_61 rfl f_X1_15 hR rfl ?_
        refine s_iload C 66 dX1_insert_64 rfl rfl ?_
        refine s_iconst C 67 (nI 1) dX1_insert_66 rfl (by decide) ?_
        refine s_isubN C 68 dX1_insert_67 rfl (by omega) ?_
        refine s_iald C 69 dX1_insert_68 rfl hP1 (by omega) (by omega) ?_
        refine s_iastU C 70 dX1_insert_69 rfl hP1 (by first | decide | omega) (by omega) (by omega) (fun M16 U17 => ?_)
        have hR := U17.o hP1 hR (by first | decide | omega)
        have hA1 := U17.o hP1 hA1 (by first | decide | omega)
        have hF := hF.put U17 hP1 (by first | decide | (simp; done) | (simp; omega) | (simp [*]; done))
        have hP1 := U17.s
        refine s_iinc C 73 (nI (i - 1)) dX1_insert_70 rfl rfl (nI_dec (by omega)) rfl ?_
        dsimp only [List.set]
        refine s_goto C 6 dX1_insert_73 (by decide) ?_
        exact ih6 (i - 1) _ _ _ (by omega) (by omega) (by rw [hK, insK_t (by omega) (by exact z35)]) (fun j hj => by rw [pk_un (by omega), pk_un (by omega)]; exact hlo j (by omega)) (fun j h1 h2 => by by_cases e : j = i; (· rw [e, pk_us, pk_us]; exact hlo (i - 1) (by omega)); rw [pk_un e, pk_un e]; exact hhi j (by omega) h2) hR hA1 hP1 hF

set_option maxRecDepth 100000 in
set_option maxHeartbeats 4000000 in
theorem c_rank {G : mG} {M : mM} {k s T mo od ql : Nat} {q : Nat → Int32} {ln : Nat → Nat} {fl : Nat → Nat → Int32} {us : Nat → Int32} (hs : sR G M k s T mo od ql q ln fl us) {r c : Nat} {rk pl : Nat → Nat} (hk : kR M r c rk pl) : CC G iX1_rank 0 0 [.ref r, .ref s] M (fun v M1 => v = none ∧ kR M1 r (rkN T mo od ql q ln fl us T).1 (rkN T mo od ql q ln fl us T).2 (plN mo ql q ln fl) ∧ mZ [30, 31, 32] M M1) := by
  refine CC.of rfl (Nat.le_of_ble_eq_true rfl) rfl (fun X C Tr => ?_)
  show V X 0 0 0 [some (.ref r), some (.ref s), none, none] [] M
  obtain ⟨ra, pa, rf, pf, hR, hA1, hP1, hc16, hkk⟩ := hk
  have hF : mZ [30, 31, 32] M M := mZ.rf
  refine s_aload_n C 1 dX1_rank_0 rfl rfl ?_
  refine s_iconst C 2 (nI 0) dX1_rank_1 rfl (by decide) ?_
  refine s_putU C 5 dX1_rank_2 rfl p_X1_18 hR (by first | decide | omega) rfl rfl rfl (fs' := [.ref ra, .ref pa, .int (nI 0)]) rfl (fun M1 U2 => ?_)
  have hA1 := U2.o hR hA1 (by first | decide | omega)
  have hP1 := U2.o hR hP1 (by first | decide | omega)
  have hF := hF.put U2 hR (by first | decide | (simp; done) | (simp; omega) | (simp [*]; done))
  have hR := U2.s
  have hk9 : kR M1 r 0 (rkN T mo od ql q ln fl us 0).2 (plN mo ql q ln fl) := ⟨ra, pa, rf, pf, hR, hA1, hP1, by omega, fun k hk => by omega⟩
  refine s_iconst C 6 (nI 0) dX1_rank_5 rfl (by decide) ?_
  refine s_istore_n C 7 dX1_rank_6 rfl rfl rfl ?_
  dsimp only [List.set]
  suffices lp7 : ∀ (fu7 : Nat) (t : Nat) (M9 : mM), T - t < fu7 → t ≤ T → kR M9 r (rkN T mo od ql q ln fl us t).1 (rkN T mo od ql q ln fl us t).2 (plN mo ql q ln fl) → mZ [30, 31, 32] M M9 → V X 0 0 7 [some (.ref r), some (.ref s), some (.int (nI t)), none] [] M9 from lp7 (T + 1) 0 _ (by omega) (by omega) hk9 hF
  intro fu7
  induction fu7 with
  | zero => intro t M9 ht0 ht hk9 hF; omega
  | succ fu7 ih7 =>
    intro t M9 ht0 ht hk9 hF
    obtain ⟨ra, pa, rf, pf, hR, hA1, hP1, hc16, hkk⟩ := hk9
    have hSs := hs.at hF (by simp) (by simp) (by simp; omega) (by simp; omega) (by simp; omega) (by simp; omega)
    have hSs2 := hSs
    obtain ⟨la, qa, cap, g, ad, ifn, hS, hL, hQ, hT, hmo, hod, hql, hA⟩ := hSs2
    have hin := rkS_in (B := fun x y => cbB od x ((pmO mo ql q (ln x) (fl x)).getD 0) y ((pmO mo ql q (ln y) (fl y)).getD 0) ln fl us) (pm := (fun x => pmO mo ql q (ln x) (fl x))) t
    refine s_iload_n C 8 dX1_rank_7 rfl rfl ?_
    refine s_aload_n C 9 dX1_rank_8 rfl rfl ?_
    refine s_getf C 12 dX1_rank_9 rfl f_X1_22 hS rfl ?_
    refine s_invV C 15 0 0 [.int (nI t)] (lR_rv hL) dX1_rank_12 rfl m_X1_28 (c_size hL) rfl rfl rfl ⟨by decide, by decide⟩ (Nat.le_of_ble_eq_true rfl) (by omega) (by omega) ?_
    rintro _ M3 ⟨rfl, rfl⟩
    dsimp only [Option.toList, List.cons_append, List.nil_append]
    refine s_icmp_geN C 53 18 dX1_rank_15 (by decide) rfl (by omega) (by omega) (fun z15 => ?_) (fun z15 => ?_)
    · skip
      have ht9 : t = T := by omega
      rw [ht9] at hkk hc16 hR
      exact s_vret C dX1_rank_53 Tr rfl ⟨rfl, ⟨ra, pa, rf, pf, hR, hA1, hP1, hc16, hkk⟩, hF⟩
    · skip
      refine s_aload_n C 19 dX1_rank_18 rfl rfl ?_
      refine s_iload_n C 20 dX1_rank_19 rfl rfl ?_
      refine s_invV C 23 0 0 [] (sR_rv hSs) dX1_rank_20 rfl m_X1_34 (c_placeOfMatch hSs (by omega)) rfl rfl rfl ⟨by decide, by decide⟩ (Nat.le_of_ble_eq_true rfl) (by omega) (by omega) ?_
      rintro _ M4 ⟨rfl, rfl⟩
      dsimp only [Option.toList, List.cons_append, List.nil_append]
      refine s_istore_n C 24 dX1_rank_23 rfl rfl rfl ?_
      dsimp only [List.set]
      refine s_iload_n C 25 dX1_rank_24 rfl rfl ?_
      refine s_if_lt C 47 28 dX1_rank_25 (by decide) rfl (fun z25 => ?_) (fun z25 => ?_)
      · skip
        have hno : pmO mo ql q (ln t) (fl t) = none := (oI_lt (fun j hj => by have := pmO_lt (hA t (by omega)).2.2.2.2.1 j hj; omega)).mp z25
        have hstep : rkN T mo od ql q ln fl us (t + 1) = rkN T mo od ql q ln fl us t := by unfold rkN; rw [rkS, if_neg (by simp [hno])]
        refine s_iinc C 50 (nI (t + 1)) dX1_rank_47 rfl rfl (by rw [← nI_add]; rfl) rfl ?_
        dsimp only [List.set]
        refine s_goto C 7 dX1_rank_50 (by decide) ?_
        refine V.drop 3 ?_
        dsimp only [List.set]
        exact ih7 (t + 1) _ (by omega) (by omega) (by first | exact hk9n | (rw [hstep]; exact ⟨ra, pa, rf, pf, hR, hA1, hP1, hc16, hkk⟩)) (by first | exact hFn | exact hF)
      · skip
        have hsm : ∃ p, pmO mo ql q (ln t) (fl t) = some p := by cases e : pmO mo ql q (ln t) (fl t) with | none => exact absurd (by rw [e]; decide) z25 | some p => exact ⟨p, rfl⟩
        obtain ⟨pp, hpp⟩ := hsm
        have hpb := pmO_lt (hA t (by omega)).2.2.2.2.1 pp hpp
        have hpl : oI (pmO mo ql q (ln t) (fl t)) = nI (plN mo ql q ln fl t) := by unfold plN; rw [hpp]; rfl
        have hpl2 : plN mo ql q ln fl t = pp := by unfold plN; rw [hpp]; rfl
        have hstep : rkN T mo od ql q ln fl us (t + 1) = ((rkN T mo od ql q ln fl us t).1 + 1, insR (rkN T mo od ql q ln fl us t).2 (insK (fun y => cbB od t (plN mo ql q ln fl t) y (plN mo ql q ln fl y) ln fl us) (rkN T mo od ql q ln fl us t).2 (rkN T mo od ql q ln fl us t).1) t) := by unfold rkN plN; rw [rkS, if_pos (by simp [hpp])]
        rw [hpl]
        refine s_aload_n C 29 dX1_rank_28 rfl rfl ?_
        refine s_getf C 32 dX1_rank_29 rfl f_X1_18 hR rfl ?_
        refine s_aload_n C 33 dX1_rank_32 rfl rfl ?_
        refine s_getf C 36 dX1_rank_33 rfl f_X1_9 hR rfl ?_
        refine s_alen C 37 dX1_rank_36 rfl hA1 (by decide) ?_
        refine s_icmp_geN C 47 40 dX1_rank_37 (by decide) rfl (by omega) (by omega) (fun z37 => ?_) (fun z37 => ?_)
        · skip
          exact absurd z37 (by have := hin.1; unfold rkN; omega)
        · skip
          refine s_aload_n C 41 dX1_rank_40 rfl rfl ?_
          refine s_aload_n C 42 dX1_rank_41 rfl rfl ?_
          refine s_iload_n C 43 dX1_rank_42 rfl rfl ?_
          refine s_iload_n C 44 dX1_rank_43 rfl rfl ?_
          have hrk : ∀ j, j < (rkN T mo od ql q ln fl us t).1 → (rkN T mo od ql q ln fl us t).2 j < T ∧ plN mo ql q ln fl ((rkN T mo od ql q ln fl us t).2 j) < 1000 := fun j hj => ⟨by have := (hin.2 j hj).1; exact Nat.lt_of_lt_of_le this ht, by unfold plN; cases e : pmO mo ql q (ln ((rkN T mo od ql q ln fl us t).2 j)) (fl ((rkN T mo od ql q ln fl us t).2 j)) with | none => exact (by decide : 0 < 1000) | some p => exact Nat.lt_of_lt_of_le (pmO_lt (hA _ (by have := (hin.2 j hj).1; exact Nat.lt_of_lt_of_le this ht)).2.2.2.2.1 p e) (by decide)⟩
          have hlt16 : (rkN T mo od ql q ln fl us t).1 < 16 := by omega
          refine s_invV C 47 0 0 [] (mRv_of hR rfl) dX1_rank_44 rfl m_X1_38 (c_insert hSs ⟨ra, pa, rf, pf, hR, hA1, hP1, hc16, hkk⟩ hlt16 (by omega) (by omega) hrk) rfl rfl rfl ⟨by decide, by decide⟩ (Nat.le_of_ble_eq_true rfl) (by omega) (by omega) ?_
          rintro _ M5 ⟨rfl, hk9n, hFi⟩
          dsimp only [Option.toList, List.cons_append, List.nil_append]
          have hk9n : kR M5 r (rkN T mo od ql q ln fl us (t + 1)).1 (rkN T mo od ql q ln fl us (t + 1)).2 (plN mo ql q ln fl) := by rw [hstep]; exact hk9n
          have hFn := hF.tr hFi
          refine s_iinc C 50 (nI (t + 1)) dX1_rank_47 rfl rfl (by rw [← nI_add]; rfl) rfl ?_
          dsimp only [List.set]
          refine s_goto C 7 dX1_rank_50 (by decide) ?_
          refine V.drop 3 ?_
          dsimp only [List.set]
          exact ih7 (t + 1) _ (by omega) (by omega) (by first | exact hk9n | (rw [hstep]; exact ⟨ra, pa, rf, pf, hR, hA1, hP1, hc16, hkk⟩)) (by first | exact hFn | exact hF)

set_option maxRecDepth 100000 in
set_option maxHeartbeats 4000000 in
theorem c_rankInit {G : mG} {M : mM} {r : Nat} (hR : M r = some (30, .inl (2, [.null, .null, .int 0]))) : CC G iX1_init 2 32 [.ref r] M (fun v M1 => v = none ∧ kR M1 r 0 (fun _ => 0) (fun _ => 0) ∧ mZ [30] M M1) := by
  refine CC.of rfl (Nat.le_of_ble_eq_true rfl) rfl (fun X C Tr => ?_)
  show V X 2 32 0 [some (.ref r)] [] M
  have hF : mZ [30] M M := mZ.rf
  refine s_aload_n C 1 dX1_init_0 rfl rfl ?_
  refine s_oi C 4 dX1_init_1 rfl oi_X1_3 rfl (by decide) (Nat.le_of_ble_eq_true rfl) ?_
  refine s_aload_n C 5 dX1_init_4 rfl rfl ?_
  refine s_bipush C 7 (nI 16) dX1_init_5 rfl (by decide) ?_
  refine s_newaU C 9 1 16 31 dX1_init_7 rfl (Or.inl ⟨rfl, rfl, ac_int⟩) (by omega) (by first | decide | omega) (by omega) (by omega) (fun ra M1 hnra U2 => ?_)
  have hR := U2.n hnra hR
  have hnra0 := hF.no hnra
  have hF := hF.new U2 hnra
  have hA1 := U2.s
  refine s_putFU C 12 dX1_init_9 rfl p_X1_9 rfl hR (by first | decide | omega) rfl rfl rfl (fs' := [.ref ra, .null, .int 0]) rfl (fun M3 U4 => ?_)
  have hA1 := U4.o hR hA1 (by first | decide | omega)
  have hF := hF.put U4 hR (by first | decide | (simp; done) | (simp; omega) | (simp [*]; done))
  have hR := U4.s
  refine s_aload_n C 13 dX1_init_12 rfl rfl ?_
  refine s_bipush C 15 (nI 16) dX1_init_13 rfl (by decide) ?_
  refine s_newaU C 17 0 0 32 dX1_init_15 rfl (Or.inl ⟨rfl, rfl, ac_int⟩) (by omega) (by first | decide | omega) (by omega) (by omega) (fun pa M5 hnpa U6 => ?_)
  have hR := U6.n hnpa hR
  have hA1 := U6.n hnpa hA1
  have hnpa0 := hF.no hnpa
  have hF := hF.new U6 hnpa
  have hP1 := U6.s
  refine s_putFU C 20 dX1_init_17 rfl p_X1_15 rfl hR (by first | decide | omega) rfl rfl rfl (fs' := [.ref ra, .ref pa, .int 0]) rfl (fun M7 U8 => ?_)
  have hA1 := U8.o hR hA1 (by first | decide | omega)
  have hP1 := U8.o hR hP1 (by first | decide | omega)
  have hF := hF.put U8 hR (by first | decide | (simp; done) | (simp; omega) | (simp [*]; done))
  have hR := U8.s
  exact s_vret C dX1_init_20 Tr rfl ⟨rfl, ⟨ra, pa, _, _, hR, hA1, hP1, by omega, fun k hk => absurd hk (Nat.not_lt_zero _)⟩, hF⟩
