theorem vp_cell_ext {c : ClassId} {n : Nat} {f f' : Nat → Int32} (hf : ∀ j, j < n → f j = f' j) : vp_cell c (n, .inl f) = vp_cell c (n, .inl f') := by
  rw [vp_cell_i, vp_cell_i]
  unfold arrV
  congr 1
  refine congrArg Array.ofFn (funext fun j => ?_)
  show Value.int (f j.1) = Value.int (f' j.1)
  rw [hf j.1 j.2]
theorem mR_cell {G : mG} {M : mM} {H : Heap} {locs : List Loc} {a t : Nat} {e e' : mE} (h : mR G M H locs) (ha : M a = some (t, e)) (ht : t ≠ 0) (he : va_at G.2.2.1 vwCl (a, mv G.2.2.2.1 e) H → va_at G.2.2.1 vwCl (a, mv G.2.2.2.1 e') H) : mR G (mup M a (t, e')) H locs := by
  refine ⟨fun b tb eb hb => ?_, fun b tb eb hb => ?_, h.2.2⟩
  · by_cases hba : b = a
    · subst hba
      rw [mup_s] at hb
      cases hb
      exact Or.inl ⟨ht, he ((h.1 b t e ha).z ht)⟩
    · rw [mup_n hba] at hb
      exact h.1 b tb eb hb
  · by_cases hba : b = a
    · subst hba
      rw [mup_s] at hb
      cases hb
      exact h.2.1 b t e ha
    · rw [mup_n hba] at hb
      exact h.2.1 b tb eb hb
/-- a row's contents beyond its length are of no account -/
theorem s_ext {X : mX} {bc bs pc : Nat} {L : List (Option Value)} {st : List Value} {M : mM} (a t kd n : Nat) {f : Nat → Int32} (f' : Nat → Int32) (ha : M a = some (t, .inr (kd, n, .inl f))) (hf : ∀ j, j < n → f j = f' j) (h : ∀ M1, mU M a (t, .inr (kd, n, .inl f')) M1 → V X bc bs pc L st M1) : V X bc bs pc L st M := by
  have h9 := h _ mU.up
  obtain ⟨p, e0, R, s, m, args, below, meth, c, Q, mc, ms, G⟩ := X
  intro H locs cells slots ls hR hc hs hl
  refine h9 H locs cells slots ls (mR_cell hR ha (hR.1 a t _ ha).f.1 (fun q => ?_)) hc hs hl
  have q1 : H[a]? = some (vp_cell (G.2.2.2.1 kd) (n, .inl f)) := q
  show H[a]? = some (vp_cell (G.2.2.2.1 kd) (n, .inl f'))
  rw [q1, vp_cell_ext hf]
/-! pure words: reading the text -/
def isD (c : Int32) : Bool := decide (¬ c < nI 48 ∧ ¬ nI 57 < c)
def isL (c : Int32) : Bool := decide (¬ c < nI 97 ∧ c ≤ nI 122) || isD c
def dg (c : Int32) : Nat := c.toNatClampNeg - 48
theorem isD_dg {c : Int32} (h : isD c = true) : c = nI (48 + dg c) ∧ dg c < 10 := by
  unfold isD at h
  obtain ⟨h1, h2⟩ := of_decide_eq_true h
  have h0 : ¬ c < 0 := by
    intro z
    exact h1 (by rw [Int32.lt_iff_toInt_lt] at z ⊢; rw [nI_toInt (by omega)]; rw [Int32.toInt_zero] at z; omega)
  obtain ⟨j, hj, rfl⟩ := nI_of h0
  rw [nI_ltI hj (by omega)] at h1
  rw [nI_ltI (by omega) hj] at h2
  unfold dg
  rw [nI_clamp hj]
  exact ⟨by rw [show 48 + (j - 48) = j by omega], by omega⟩
theorem isD_sub {c : Int32} (h : isD c = true) : c - nI 48 = nI (dg c) := by
  have h1 := (isD_dg h).1
  rw [show c - nI 48 = nI (48 + dg c) - nI 48 by rw [← h1], pk_sub (by omega), show 48 + dg c - 48 = dg c by omega]
/-- a title from p on: where it ends, and whether a letter is wanted still -/
def ptF (g : Nat → Int32) (n : Nat) : Nat → Nat → Bool → Nat × Bool
  | 0, p, nd => (p, nd)
  | fu + 1, p, nd => if p < n then (if g p = nI 32 then (if nd = true ∨ fu = 0 then (p, nd) else ptF g n fu (p + 1) true) else if isL (g p) = true then ptF g n fu (p + 1) false else (p, nd)) else (p, nd)
theorem ptF_le {g : Nat → Int32} {n : Nat} : ∀ (fu p : Nat) (nd : Bool), p ≤ n → p ≤ (ptF g n fu p nd).1 ∧ (ptF g n fu p nd).1 ≤ n ∧ (ptF g n fu p nd).1 ≤ p + fu := by
  intro fu
  induction fu with
  | zero => intro p nd h; exact ⟨Nat.le_refl _, h, Nat.le_refl _⟩
  | succ fu ih =>
    intro p nd h
    rw [ptF]
    split
    · rename_i h1
      have i1 := ih (p + 1) true (by omega)
      have i2 := ih (p + 1) false (by omega)
      split
      · split
        · exact ⟨Nat.le_refl _, h, by show p ≤ _; omega⟩
        · omega
      · split
        · omega
        · exact ⟨Nat.le_refl _, h, by show p ≤ _; omega⟩
    · exact ⟨Nat.le_refl _, h, by show p ≤ _; omega⟩
/-- a number -/
def pnN (g : Nat → Int32) (n p : Nat) : Nat := if p < n ∧ isD (g p) = true then (if p + 1 < n ∧ isD (g (p + 1)) = true then 2 else 1) else 0
def pnV (g : Nat → Int32) (n p : Nat) : Nat := if pnN g n p = 2 then 10 * (10 * 0 + dg (g p)) + dg (g (p + 1)) else if pnN g n p = 1 then 10 * 0 + dg (g p) else 0
theorem pnN_le {g : Nat → Int32} {n p : Nat} (h : p ≤ n) : p + pnN g n p ≤ n ∧ pnN g n p ≤ 2 := by
  unfold pnN
  split
  · split <;> omega
  · omega
/-- the text's cells -/
def xR (M : mM) (x n p : Nat) (cmd val : Int32) (fr to : Nat) (g : Nat → Int32) : Prop := ∃ sa, M x = some (20, .inl (5, [.ref sa, .int (nI n), .int (nI p), .int cmd, .int val, .int (nI fr), .int (nI to)])) ∧ M sa = some (21, .inr (1, 80, .inl g)) ∧ n ≤ 80
theorem xR.at {T : List Nat} {M M1 : mM} {x n p fr to : Nat} {cmd val : Int32} {g : Nat → Int32} (hF : mZ T M M1) (h0 : 20 ∉ T) (h1 : 21 ∉ T) (h : xR M x n p cmd val fr to g) : xR M1 x n p cmd val fr to g := by
  obtain ⟨sa, h2, h3, h4⟩ := h
  exact ⟨sa, hF.at h2 h0, hF.at h3 h1, h4⟩
theorem oI_n {o : Option Nat} (h : ∀ j, o = some j → j < 100) : oI o = -6 ↔ o = none := by
  cases o with
  | none => exact ⟨fun _ => rfl, fun _ => rfl⟩
  | some j =>
    constructor
    · intro e
      have hj := h j rfl
      have h1 : (nI j).toInt = (-6 : Int32).toInt := congrArg Int32.toInt e
      rw [nI_toInt (by omega)] at h1
      exact absurd h1 (by have : (-6 : Int32).toInt = -6 := by decide
                          omega)
    · intro e; cases e
set_option maxRecDepth 100000 in
set_option maxHeartbeats 4000000 in
theorem c_isDigit {G : mG} {M : mM} {c : Int32} : CC G iX4_isDigit 0 0 [.int c] M (fun r M1 => r = some (.int (mB (isD c))) ∧ M = M1) := by
  refine CC.of rfl (Nat.le_of_ble_eq_true rfl) rfl (fun X C Tr => ?_)
  show V X 0 0 0 [some (.int c)] [] M
  refine s_iload_n C 1 dX4_isDigit_0 rfl rfl ?_
  refine s_bipush C 3 (nI 48) dX4_isDigit_1 rfl (by decide) ?_
  refine s_icmp_lt C 16 6 dX4_isDigit_3 (by decide) rfl (fun z3 => ?_) (fun z3 => ?_)
  · skip
    refine s_iconst C 17 (nI 0) dX4_isDigit_16 rfl (by decide) ?_
    exact s_zret C dX4_isDigit_17 Tr rfl (by decide) ⟨rF (by simp [isD, *]), rfl⟩
  · skip
    refine s_iload_n C 7 dX4_isDigit_6 rfl rfl ?_
    refine s_bipush C 9 (nI 57) dX4_isDigit_7 rfl (by decide) ?_
    refine s_icmp_gt C 16 12 dX4_isDigit_9 (by decide) rfl (fun z9 => ?_) (fun z9 => ?_)
    · skip
      refine s_iconst C 17 (nI 0) dX4_isDigit_16 rfl (by decide) ?_
      exact s_zret C dX4_isDigit_17 Tr rfl (by decide) ⟨rF (by simp [isD, *]), rfl⟩
    · skip
      refine s_iconst C 13 (nI 1) dX4_isDigit_12 rfl (by decide) ?_
      refine s_goto C 17 dX4_isDigit_13 (by decide) ?_
      exact s_zret C dX4_isDigit_17 Tr rfl (by decide) ⟨rT (by simp [isD, *]), rfl⟩

set_option maxRecDepth 100000 in
set_option maxHeartbeats 4000000 in
theorem c_isLetter {G : mG} {M : mM} {c : Int32} : CC G iX4_isLetter 0 0 [.int c] M (fun r M1 => r = some (.int (mB (isL c))) ∧ M = M1) := by
  refine CC.of rfl (Nat.le_of_ble_eq_true rfl) rfl (fun X C Tr => ?_)
  show V X 0 0 0 [some (.int c)] [] M
  refine s_iload_n C 1 dX4_isLetter_0 rfl rfl ?_
  refine s_bipush C 3 (nI 97) dX4_isLetter_1 rfl (by decide) ?_
  refine s_icmp_lt C 12 6 dX4_isLetter_3 (by decide) rfl (fun z3 => ?_) (fun z3 => ?_)
  · skip
    refine s_iload_n C 13 dX4_isLetter_12 rfl rfl ?_
    refine s_invS C 16 0 0 [] dX4_isLetter_13 rfl m_X4_65 (c_isDigit) rfl rfl rfl ⟨by decide, by decide⟩ (Nat.le_of_ble_eq_true rfl) (by omega) (by omega) ?_
    rintro _ M1 ⟨rfl, rfl⟩
    dsimp only [Option.toList, List.cons_append, List.nil_append]
    refine s_if_eqB C 23 19 dX4_isLetter_16 (by decide) rfl (fun z16 => ?_) (fun z16 => ?_)
    · skip
      refine s_iconst C 24 (nI 0) dX4_isLetter_23 rfl (by decide) ?_
      exact s_zret C dX4_isLetter_24 Tr rfl (by decide) ⟨rF (by simp [isL, *]), rfl⟩
    · skip
      refine s_iconst C 20 (nI 1) dX4_isLetter_19 rfl (by decide) ?_
      refine s_goto C 24 dX4_isLetter_20 (by decide) ?_
      exact s_zret C dX4_isLetter_24 Tr rfl (by decide) ⟨rT (by simp [isL, *]), rfl⟩
  · skip
    refine s_iload_n C 7 dX4_isLetter_6 rfl rfl ?_
    refine s_bipush C 9 (nI 122) dX4_isLetter_7 rfl (by decide) ?_
    refine s_icmp_le C 19 12 dX4_isLetter_9 (by decide) rfl (fun z9 => ?_) (fun z9 => ?_)
    · skip
      refine s_iconst C 20 (nI 1) dX4_isLetter_19 rfl (by decide) ?_
      refine s_goto C 24 dX4_isLetter_20 (by decide) ?_
      exact s_zret C dX4_isLetter_24 Tr rfl (by decide) ⟨rT (by simp [isL, *]), rfl⟩
    · skip
      refine s_iload_n C 13 dX4_isLetter_12 rfl rfl ?_
      refine s_invS C 16 0 0 [] dX4_isLetter_13 rfl m_X4_65 (c_isDigit) rfl rfl rfl ⟨by decide, by decide⟩ (Nat.le_of_ble_eq_true rfl) (by omega) (by omega) ?_
      rintro _ M2 ⟨rfl, rfl⟩
      dsimp only [Option.toList, List.cons_append, List.nil_append]
      refine s_if_eqB C 23 19 dX4_isLetter_16 (by decide) rfl (fun z16 => ?_) (fun z16 => ?_)
      · skip
        refine s_iconst C 24 (nI 0) dX4_isLetter_23 rfl (by decide) ?_
        exact s_zret C dX4_isLetter_24 Tr rfl (by decide) ⟨rF (by simp [isL, *]), rfl⟩
      · skip
        refine s_iconst C 20 (nI 1) dX4_isLetter_19 rfl (by decide) ?_
        refine s_goto C 24 dX4_isLetter_20 (by decide) ?_
        exact s_zret C dX4_isLetter_24 Tr rfl (by decide) ⟨rT (by simp [isL, *]), rfl⟩

set_option maxRecDepth 100000 in
set_option maxHeartbeats 4000000 in
/-- c_hasSign -/
theorem c_hasSign {G : mG} {M : mM} {x n p fr to : Nat} {cmd val : Int32} {g : Nat → Int32} (h : xR M x n p cmd val fr to g) (hp : p < 100000) : CC G iX4_hasSign 0 0 [.ref x] M (fun r M1 => r = some (.int (mB (decide (p < n)))) ∧ M = M1) := by
  refine CC.of rfl (Nat.le_of_ble_eq_true rfl) rfl (fun X C Tr => ?_)
  show V X 0 0 0 [some (.ref x)] [] M
  obtain ⟨sa, hX, hG, hn⟩ := h
  refine s_aload_n C 1 dX4_hasSign_0 rfl rfl ?_
  refine s_getf C 4 dX4_hasSign_1 rfl f_X4_19 hX rfl ?_
  refine s_if_ltN C 7 (t := 34) dX4_hasSign_4 (by decide) rfl (by omega) ?_
  refine s_aload_n C 8 dX4_hasSign_7 rfl rfl ?_
  refine s_getf C 11 dX4_hasSign_8 rfl f_X4_19 hX rfl ?_
  refine s_aload_n C 12 dX4_hasSign_11 rfl rfl ?_
  refine s_getf C 15 dX4_hasSign_12 rfl f_X4_15 hX rfl ?_
  refine s_icmp_geN C 34 18 dX4_hasSign_15 (by decide) rfl (by omega) (by omega) (fun z15 => ?_) (fun z15 => ?_)
  · skip
    refine s_iconst C 35 (nI 0) dX4_hasSign_34 rfl (by decide) ?_
    exact s_zret C dX4_hasSign_35 Tr rfl (by decide) ⟨rF (by simp; omega), rfl⟩
  · skip
    refine s_aload_n C 19 dX4_hasSign_18 rfl rfl ?_
    refine s_getf C 22 dX4_hasSign_19 rfl f_X4_19 hX rfl ?_
    refine s_aload_n C 23 dX4_hasSign_22 rfl rfl ?_
    refine s_getf C 26 dX4_hasSign_23 rfl f_X4_9 hX rfl ?_
    refine s_alen C 27 dX4_hasSign_26 rfl hG (by decide) ?_
    refine s_icmp_geN C 34 30 dX4_hasSign_27 (by decide) rfl (by omega) (by omega) (fun z27 => ?_) (fun z27 => ?_)
    · skip
      omega
    · skip
      refine s_iconst C 31 (nI 1) dX4_hasSign_30 rfl (by decide) ?_
      refine s_goto C 35 dX4_hasSign_31 (by decide) ?_
      exact s_zret C dX4_hasSign_35 Tr rfl (by decide) ⟨rT (by simp; omega), rfl⟩

set_option maxRecDepth 100000 in
set_option maxHeartbeats 4000000 in
/-- c_makeEmpty -/
theorem c_makeEmpty {G : mG} {M : mM} {x n p fr to : Nat} {cmd val : Int32} {g : Nat → Int32} (h : xR M x n p cmd val fr to g) : CC G iX4_makeEmpty 0 0 [.ref x] M (fun r M1 => r = none ∧ xR M1 x 0 p cmd val fr to g ∧ mZ [20] M M1) := by
  refine CC.of rfl (Nat.le_of_ble_eq_true rfl) rfl (fun X C Tr => ?_)
  show V X 0 0 0 [some (.ref x)] [] M
  obtain ⟨sa, hX, hG, hn⟩ := h
  have hF : mZ [20] M M := mZ.rf
  refine s_aload_n C 1 dX4_makeEmpty_0 rfl rfl ?_
  refine s_iconst C 2 (nI 0) dX4_makeEmpty_1 rfl (by decide) ?_
  refine s_putU C 5 dX4_makeEmpty_2 rfl p_X4_15 hX (by first | decide | omega) rfl rfl rfl (fs' := [.ref sa, .int (nI 0), .int (nI p), .int cmd, .int val, .int (nI fr), .int (nI to)]) rfl (fun M1 U2 => ?_)
  have hG := U2.o hX hG (by first | decide | omega)
  have hF := hF.put U2 hX (by first | decide | (simp; done) | (simp; omega) | (simp [*]; done))
  have hX := U2.s
  exact s_vret C dX4_makeEmpty_5 Tr rfl ⟨rfl, ⟨sa, hX, hG, by omega⟩, hF⟩

set_option maxRecDepth 100000 in
set_option maxHeartbeats 4000000 in
/-- c_rewind -/
theorem c_rewind {G : mG} {M : mM} {x n p fr to : Nat} {cmd val : Int32} {g : Nat → Int32} (h : xR M x n p cmd val fr to g) : CC G iX4_rewind 0 0 [.ref x] M (fun r M1 => r = none ∧ xR M1 x n 0 cmd val fr to g ∧ mZ [20] M M1) := by
  refine CC.of rfl (Nat.le_of_ble_eq_true rfl) rfl (fun X C Tr => ?_)
  show V X 0 0 0 [some (.ref x)] [] M
  obtain ⟨sa, hX, hG, hn⟩ := h
  have hF : mZ [20] M M := mZ.rf
  refine s_aload_n C 1 dX4_rewind_0 rfl rfl ?_
  refine s_iconst C 2 (nI 0) dX4_rewind_1 rfl (by decide) ?_
  refine s_putU C 5 dX4_rewind_2 rfl p_X4_19 hX (by first | decide | omega) rfl rfl rfl (fs' := [.ref sa, .int (nI n), .int (nI 0), .int cmd, .int val, .int (nI fr), .int (nI to)]) rfl (fun M1 U2 => ?_)
  have hG := U2.o hX hG (by first | decide | omega)
  have hF := hF.put U2 hX (by first | decide | (simp; done) | (simp; omega) | (simp [*]; done))
  have hX := U2.s
  exact s_vret C dX4_rewind_5 Tr rfl ⟨rfl, ⟨sa, hX, hG, hn⟩, hF⟩

set_option maxRecDepth 100000 in
set_option maxHeartbeats 4000000 in
theorem c_append4 {G : mG} {M : mM} {x n p fr to : Nat} {cmd val : Int32} {g : Nat → Int32} (h : xR M x n p cmd val fr to g) {c : Int32} (hc : vp_nar .char c = c) : CC G iX4_append 0 0 [.ref x, .int c] M (fun r M1 => r = some (.int (mB (decide (n < 80)))) ∧ (n < 80 → xR M1 x (n + 1) p cmd val fr to (upd g n c) ∧ mZ [20, 21] M M1) ∧ (80 ≤ n → M = M1)) := by
  refine CC.of rfl (Nat.le_of_ble_eq_true rfl) rfl (fun X C Tr => ?_)
  show V X 0 0 0 [some (.ref x), some (.int c)] [] M
  obtain ⟨sa, hX, hG, hn⟩ := h
  have hF : mZ [20, 21] M M := mZ.rf
  refine s_aload_n C 1 dX4_append_0 rfl rfl ?_
  refine s_getf C 4 dX4_append_1 rfl f_X4_15 hX rfl ?_
  refine s_if_ltN C 7 (t := 19) dX4_append_4 (by decide) rfl (by omega) ?_
  refine s_aload_n C 8 dX4_append_7 rfl rfl ?_
  refine s_getf C 11 dX4_append_8 rfl f_X4_15 hX rfl ?_
  refine s_aload_n C 12 dX4_append_11 rfl rfl ?_
  refine s_getf C 15 dX4_append_12 rfl f_X4_9 hX rfl ?_
  refine s_alen C 16 dX4_append_15 rfl hG (by decide) ?_
  refine s_icmp_ltN C 21 19 dX4_append_16 (by decide) rfl (by omega) (by omega) (fun z16 => ?_) (fun z16 => ?_)
  · skip
    refine s_aload_n C 22 dX4_append_21 rfl rfl ?_
    refine s_getf C 25 dX4_append_22 rfl f_X4_9 hX rfl ?_
    refine s_aload_n C 26 dX4_append_25 rfl rfl ?_
    refine s_getf C 29 dX4_append_26 rfl f_X4_15 hX rfl ?_
    refine s_iload_n C 30 dX4_append_29 rfl rfl ?_
    refine s_castU C 31 dX4_append_30 rfl hG (by first | decide | omega) (by omega) (by omega) (hc) (fun M1 U2 => ?_)
    have hX := U2.o hG hX (by first | decide | omega)
    have hF := hF.put U2 hG (by first | decide | (simp; done) | (simp; omega) | (simp [*]; done))
    have hG := U2.s
    refine s_aload_n C 32 dX4_append_31 rfl rfl ?_
    refine s_dup C 33 dX4_append_32 rfl rfl ?_
    refine s_getf C 36 dX4_append_33 rfl f_X4_15 hX rfl ?_
    refine s_iconst C 37 (nI 1) dX4_append_36 rfl (by decide) ?_
    refine s_iaddN C 38 dX4_append_37 rfl ?_
    refine s_putU C 41 dX4_append_38 rfl p_X4_15 hX (by first | decide | omega) rfl rfl rfl (fs' := [.ref sa, .int (nI (n + 1)), .int (nI p), .int cmd, .int val, .int (nI fr), .int (nI to)]) rfl (fun M3 U4 => ?_)
    have hG := U4.o hX hG (by first | decide | omega)
    have hF := hF.put U4 hX (by first | decide | (simp; done) | (simp; omega) | (simp [*]; done))
    have hX := U4.s
    refine s_iconst C 42 (nI 1) dX4_append_41 rfl (by decide) ?_
    exact s_zret C dX4_append_42 Tr rfl (by decide) ⟨rT (by simp; omega), fun _ => ⟨⟨sa, hX, hG, by omega⟩, hF⟩, fun hh => by omega⟩
  · skip
    refine s_iconst C 20 (nI 0) dX4_append_19 rfl (by decide) ?_
    exact s_zret C dX4_append_20 Tr rfl (by decide) ⟨rF (by simp; omega), fun hh => by omega, fun _ => rfl⟩

set_option maxRecDepth 100000 in
set_option maxHeartbeats 4000000 in
theorem c_passTitle {G : mG} {M : mM} {x n p fr to : Nat} {cmd val : Int32} {g : Nat → Int32} (h : xR M x n p cmd val fr to g) (hp : p ≤ n) : CC G iX4_passTitle 0 0 [.ref x] M (fun r M1 => r = some (.int (mB (!(ptF g n 24 p true).2))) ∧ xR M1 x n (ptF g n 24 p true).1 cmd val p (ptF g n 24 p true).1 g ∧ mZ [20] M M1) := by
  refine CC.of rfl (Nat.le_of_ble_eq_true rfl) rfl (fun X C Tr => ?_)
  show V X 0 0 0 [some (.ref x), none, none, none] [] M
  obtain ⟨sa, hX, hG, hn⟩ := h
  have hF : mZ [20] M M := mZ.rf
  refine s_aload_n C 1 dX4_passTitle_0 rfl rfl ?_
  refine s_aload_n C 2 dX4_passTitle_1 rfl rfl ?_
  refine s_getf C 5 dX4_passTitle_2 rfl f_X4_19 hX rfl ?_
  refine s_putU C 8 dX4_passTitle_5 rfl p_X4_52 hX (by first | decide | omega) rfl rfl rfl (fs' := [.ref sa, .int (nI n), .int (nI p), .int cmd, .int val, .int (nI p), .int (nI to)]) rfl (fun M1 U2 => ?_)
  have hG := U2.o hX hG (by first | decide | omega)
  have hF := hF.put U2 hX (by first | decide | (simp; done) | (simp; omega) | (simp [*]; done))
  have hX := U2.s
  refine s_iconst C 9 (nI 1) dX4_passTitle_8 rfl (by decide) ?_
  refine s_istore_n C 10 dX4_passTitle_9 rfl rfl rfl ?_
  dsimp only [List.set]
  refine s_iconst C 11 (nI 1) dX4_passTitle_10 rfl (by decide) ?_
  refine s_istore_n C 12 dX4_passTitle_11 rfl rfl rfl ?_
  dsimp only [List.set]
  suffices lp12 : ∀ (fu12 : Nat) (c p9 : Nat) (nd : Bool) (M9 : mM), 25 - c < fu12 → 1 ≤ c → c ≤ 25 → p9 ≤ n → ptF g n 24 p true = ptF g n (25 - c) p9 nd → M9 x = some (20, .inl (5, [.ref sa, .int (nI n), .int (nI p9), .int cmd, .int val, .int (nI p), .int (nI to)])) → M9 sa = some (21, .inr (1, 80, .inl g)) → mZ [20] M M9 → V X 0 0 12 [some (.ref x), some (.int (mB nd)), some (.int (nI c)), none] [] M9 from lp12 26 1 p true _ (by omega) (by omega) (by omega) hp rfl hX hG hF
  intro fu12
  induction fu12 with
  | zero => intro c p9 nd M9 hc0 hc1 hc hp9 hpt hX hG hF; omega
  | succ fu12 ih12 =>
    intro c p9 nd M9 hc0 hc1 hc hp9 hpt hX hG hF
    refine s_iload_n C 13 dX4_passTitle_12 rfl rfl ?_
    refine s_bipush C 15 (nI 24) dX4_passTitle_13 rfl (by decide) ?_
    refine s_icmp_gtN C 102 18 dX4_passTitle_15 (by decide) rfl (by omega) (by omega) (fun z15 => ?_) (fun z15 => ?_)
    · skip
      have hend : ptF g n 24 p true = (p9, nd) := by
        rw [hpt]
        rw [show 25 - c = 0 by omega]; rfl
      refine s_aload_n C 103 dX4_passTitle_102 rfl rfl ?_
      refine s_aload_n C 104 dX4_passTitle_103 rfl rfl ?_
      refine s_getf C 107 dX4_passTitle_104 rfl f_X4_19 hX rfl ?_
      refine s_putU C 110 dX4_passTitle_107 rfl p_X4_59 hX (by first | decide | omega) rfl rfl rfl (fs' := [.ref sa, .int (nI n), .int (nI p9), .int cmd, .int val, .int (nI p), .int (nI p9)]) rfl (fun M3 U4 => ?_)
      have hG := U4.o hX hG (by first | decide | omega)
      have hF := hF.put U4 hX (by first | decide | (simp; done) | (simp; omega) | (simp [*]; done))
      have hX := U4.s
      refine s_iload_n C 111 dX4_passTitle_110 rfl rfl ?_
      refine s_if_neB C 118 114 dX4_passTitle_111 (by decide) rfl (fun z111 => ?_) (fun z111 => ?_)
      · skip
        refine s_iconst C 119 (nI 0) dX4_passTitle_118 rfl (by decide) ?_
        exact s_zret C dX4_passTitle_119 Tr rfl (by decide) ⟨rF (by rw [hend]; simp [z111]), by rw [hend]; exact ⟨sa, hX, hG, hn⟩, hF⟩
      · skip
        refine s_iconst C 115 (nI 1) dX4_passTitle_114 rfl (by decide) ?_
        refine s_goto C 119 dX4_passTitle_115 (by decide) ?_
        exact s_zret C dX4_passTitle_119 Tr rfl (by decide) ⟨rT (by rw [hend]; simp [z111]), by rw [hend]; exact ⟨sa, hX, hG, hn⟩, hF⟩
    · skip
      refine s_aload_n C 19 dX4_passTitle_18 rfl rfl ?_
      refine s_invV C 22 0 0 [] (mRv_of hX rfl) dX4_passTitle_19 rfl m_X4_49 (c_hasSign ⟨sa, hX, hG, hn⟩ (by omega)) rfl rfl rfl ⟨by decide, by decide⟩ (Nat.le_of_ble_eq_true rfl) (by omega) (by omega) ?_
      rintro _ M5 ⟨rfl, rfl⟩
      dsimp only [Option.toList, List.cons_append, List.nil_append]
      refine s_if_eqB C 102 25 dX4_passTitle_22 (by decide) rfl (fun z22 => ?_) (fun z22 => ?_)
      · skip
        have hend : ptF g n 24 p true = (p9, nd) := by
          rw [hpt]
          rw [show 25 - c = (24 - c) + 1 by omega, ptF]
          rw [if_neg (of_decide_eq_false z22)]
        refine s_aload_n C 103 dX4_passTitle_102 rfl rfl ?_
        refine s_aload_n C 104 dX4_passTitle_103 rfl rfl ?_
        refine s_getf C 107 dX4_passTitle_104 rfl f_X4_19 hX rfl ?_
        refine s_putU C 110 dX4_passTitle_107 rfl p_X4_59 hX (by first | decide | omega) rfl rfl rfl (fs' := [.ref sa, .int (nI n), .int (nI p9), .int cmd, .int val, .int (nI p), .int (nI p9)]) rfl (fun M6 U7 => ?_)
        have hG := U7.o hX hG (by first | decide | omega)
        have hF := hF.put U7 hX (by first | decide | (simp; done) | (simp; omega) | (simp [*]; done))
        have hX := U7.s
        refine s_iload_n C 111 dX4_passTitle_110 rfl rfl ?_
        refine s_if_neB C 118 114 dX4_passTitle_111 (by decide) rfl (fun z111 => ?_) (fun z111 => ?_)
        · skip
          refine s_iconst C 119 (nI 0) dX4_passTitle_118 rfl (by decide) ?_
          exact s_zret C dX4_passTitle_119 Tr rfl (by decide) ⟨rF (by rw [hend]; simp [z111]), by rw [hend]; exact ⟨sa, hX, hG, hn⟩, hF⟩
        · skip
          refine s_iconst C 115 (nI 1) dX4_passTitle_114 rfl (by decide) ?_
          refine s_goto C 119 dX4_passTitle_115 (by decide) ?_
          exact s_zret C dX4_passTitle_119 Tr rfl (by decide) ⟨rT (by rw [hend]; simp [z111]), by rw [hend]; exact ⟨sa, hX, hG, hn⟩, hF⟩
      · skip
        have zp : p9 < n := of_decide_eq_true z22
        refine s_aload_n C 26 dX4_passTitle_25 rfl rfl ?_
        refine s_getf C 29 dX4_passTitle_26 rfl f_X4_9 hX rfl ?_
        refine s_aload_n C 30 dX4_passTitle_29 rfl rfl ?_
        refine s_getf C 33 dX4_passTitle_30 rfl f_X4_19 hX rfl ?_
        refine s_cald C 34 dX4_passTitle_33 rfl hG (by omega) (by omega) ?_
        refine s_bipush C 36 (nI 32) dX4_passTitle_34 rfl (by decide) ?_
        refine s_icmp_ne C 43 39 dX4_passTitle_36 (by decide) rfl (fun z36 => ?_) (fun z36 => ?_)
        · skip
          refine s_iconst C 44 (nI 0) dX4_passTitle_43 rfl (by decide) ?_
          refine s_istore_n C 45 dX4_passTitle_44 rfl rfl rfl ?_
          dsimp only [List.set]
          refine s_iload_n C 46 dX4_passTitle_45 rfl rfl ?_
          refine s_if_eqN C 62 49 dX4_passTitle_46 (by decide) rfl (by omega) (fun z46 => ?_) (fun z46 => ?_)
          · skip
            refine s_iload_n C 63 dX4_passTitle_62 rfl rfl ?_
            refine s_if_neN C 84 66 dX4_passTitle_63 (by decide) rfl (by omega) (fun z63 => ?_) (fun z63 => ?_)
            · skip
              omega
            · skip
              refine s_aload_n C 67 dX4_passTitle_66 rfl rfl ?_
              refine s_getf C 70 dX4_passTitle_67 rfl f_X4_9 hX rfl ?_
              refine s_aload_n C 71 dX4_passTitle_70 rfl rfl ?_
              refine s_getf C 74 dX4_passTitle_71 rfl f_X4_19 hX rfl ?_
              refine s_cald C 75 dX4_passTitle_74 rfl hG (by omega) (by omega) ?_
              refine s_invS C 78 0 0 [] dX4_passTitle_75 rfl m_X4_55 (c_isLetter) rfl rfl rfl ⟨by decide, by decide⟩ (Nat.le_of_ble_eq_true rfl) (by omega) (by omega) ?_
              rintro _ M8 ⟨rfl, rfl⟩
              dsimp only [Option.toList, List.cons_append, List.nil_append]
              refine s_if_neB C 84 81 dX4_passTitle_78 (by decide) rfl (fun z78 => ?_) (fun z78 => ?_)
              · skip
                refine s_iload_n C 85 dX4_passTitle_84 rfl rfl ?_
                refine s_istore_n C 86 dX4_passTitle_85 rfl rfl rfl ?_
                dsimp only [List.set]
                refine s_aload_n C 87 dX4_passTitle_86 rfl rfl ?_
                refine s_dup C 88 dX4_passTitle_87 rfl rfl ?_
                refine s_getf C 91 dX4_passTitle_88 rfl f_X4_19 hX rfl ?_
                refine s_iconst C 92 (nI 1) dX4_passTitle_91 rfl (by decide) ?_
                refine s_iaddN C 93 dX4_passTitle_92 rfl ?_
                refine s_putU C 96 dX4_passTitle_93 rfl p_X4_19 hX (by first | decide | omega) rfl rfl rfl (fs' := [.ref sa, .int (nI n), .int (nI (p9 + 1)), .int cmd, .int val, .int (nI p), .int (nI to)]) rfl (fun M9 U10 => ?_)
                have hG := U10.o hX hG (by first | decide | omega)
                have hF := hF.put U10 hX (by first | decide | (simp; done) | (simp; omega) | (simp [*]; done))
                have hX := U10.s
                refine s_iinc C 99 (nI (c + 1)) dX4_passTitle_96 rfl rfl (by rw [← nI_add]; rfl) rfl ?_
                dsimp only [List.set]
                refine s_goto C 12 dX4_passTitle_99 (by decide) ?_
                refine V.drop 3 ?_
                dsimp only [List.set]
                have hstep : ptF g n (25 - c) p9 nd = ptF g n (25 - (c + 1)) (p9 + 1) false := by
                  rw [show 25 - c = (24 - c) + 1 by omega, ptF, if_pos zp, show 25 - (c + 1) = 24 - c by omega]
                  rw [if_neg z36, if_pos z78]
                exact ih12 (c + 1) (p9 + 1) false _ (by omega) (by omega) (by omega) (by omega) (hpt.trans hstep) hX hG hF
              · skip
                have hend : ptF g n 24 p true = (p9, nd) := by
                  rw [hpt]
                  rw [show 25 - c = (24 - c) + 1 by omega, ptF]
                  rw [if_pos zp, if_neg z36, if_neg (by rw [z78]; decide)]
                refine s_goto C 102 dX4_passTitle_81 (by decide) ?_
                refine s_aload_n C 103 dX4_passTitle_102 rfl rfl ?_
                refine s_aload_n C 104 dX4_passTitle_103 rfl rfl ?_
                refine s_getf C 107 dX4_passTitle_104 rfl f_X4_19 hX rfl ?_
                refine s_putU C 110 dX4_passTitle_107 rfl p_X4_59 hX (by first | decide | omega) rfl rfl rfl (fs' := [.ref sa, .int (nI n), .int (nI p9), .int cmd, .int val, .int (nI p), .int (nI p9)]) rfl (fun M11 U12 => ?_)
                have hG := U12.o hX hG (by first | decide | omega)
                have hF := hF.put U12 hX (by first | decide | (simp; done) | (simp; omega) | (simp [*]; done))
                have hX := U12.s
                refine s_iload_n C 111 dX4_passTitle_110 rfl rfl ?_
                refine s_if_neB C 118 114 dX4_passTitle_111 (by decide) rfl (fun z111 => ?_) (fun z111 => ?_)
                · skip
                  refine s_iconst C 119 (nI 0) dX4_passTitle_118 rfl (by decide) ?_
                  exact s_zret C dX4_passTitle_119 Tr rfl (by decide) ⟨rF (by rw [hend]; simp [z111]), by rw [hend]; exact ⟨sa, hX, hG, hn⟩, hF⟩
                · skip
                  refine s_iconst C 115 (nI 1) dX4_passTitle_114 rfl (by decide) ?_
                  refine s_goto C 119 dX4_passTitle_115 (by decide) ?_
                  exact s_zret C dX4_passTitle_119 Tr rfl (by decide) ⟨rT (by rw [hend]; simp [z111]), by rw [hend]; exact ⟨sa, hX, hG, hn⟩, hF⟩
          · skip
            omega
        · skip
          refine s_iconst C 40 (nI 1) dX4_passTitle_39 rfl (by decide) ?_
          refine s_goto C 44 dX4_passTitle_40 (by decide) ?_
          refine s_istore_n C 45 dX4_passTitle_44 rfl rfl rfl ?_
          dsimp only [List.set]
          refine s_iload_n C 46 dX4_passTitle_45 rfl rfl ?_
          refine s_if_eqN C 62 49 dX4_passTitle_46 (by decide) rfl (by omega) (fun z46 => ?_) (fun z46 => ?_)
          · skip
            omega
          · skip
            refine s_iload_n C 50 dX4_passTitle_49 rfl rfl ?_
            refine s_if_neB C 102 53 dX4_passTitle_50 (by decide) rfl (fun z50 => ?_) (fun z50 => ?_)
            · skip
              have hend : ptF g n 24 p true = (p9, nd) := by
                rw [hpt]
                rw [show 25 - c = (24 - c) + 1 by omega, ptF]
                rw [if_pos zp, if_pos z36, if_pos (Or.inl z50)]
              refine s_aload_n C 103 dX4_passTitle_102 rfl rfl ?_
              refine s_aload_n C 104 dX4_passTitle_103 rfl rfl ?_
              refine s_getf C 107 dX4_passTitle_104 rfl f_X4_19 hX rfl ?_
              refine s_putU C 110 dX4_passTitle_107 rfl p_X4_59 hX (by first | decide | omega) rfl rfl rfl (fs' := [.ref sa, .int (nI n), .int (nI p9), .int cmd, .int val, .int (nI p), .int (nI p9)]) rfl (fun M13 U14 => ?_)
              have hG := U14.o hX hG (by first | decide | omega)
              have hF := hF.put U14 hX (by first | decide | (simp; done) | (simp; omega) | (simp [*]; done))
              have hX := U14.s
              refine s_iload_n C 111 dX4_passTitle_110 rfl rfl ?_
              refine s_if_neB C 118 114 dX4_passTitle_111 (by decide) rfl (fun z111 => ?_) (fun z111 => ?_)
              · skip
                refine s_iconst C 119 (nI 0) dX4_passTitle_118 rfl (by decide) ?_
                exact s_zret C dX4_passTitle_119 Tr rfl (by decide) ⟨rF (by rw [hend]; simp [z111]), by rw [hend]; exact ⟨sa, hX, hG, hn⟩, hF⟩
              · skip
                refine s_iconst C 115 (nI 1) dX4_passTitle_114 rfl (by decide) ?_
                refine s_goto C 119 dX4_passTitle_115 (by decide) ?_
                exact s_zret C dX4_passTitle_119 Tr rfl (by decide) ⟨rT (by rw [hend]; simp [z111]), by rw [hend]; exact ⟨sa, hX, hG, hn⟩, hF⟩
            · skip
              refine s_iload_n C 54 dX4_passTitle_53 rfl rfl ?_
              refine s_bipush C 56 (nI 24) dX4_passTitle_54 rfl (by decide) ?_
              refine s_icmp_neN C 62 59 dX4_passTitle_56 (by decide) rfl (by omega) (by omega) (fun z56 => ?_) (fun z56 => ?_)
              · skip
                refine s_iload_n C 63 dX4_passTitle_62 rfl rfl ?_
                refine s_if_neN C 84 66 dX4_passTitle_63 (by decide) rfl (by omega) (fun z63 => ?_) (fun z63 => ?_)
                · skip
                  refine s_iload_n C 85 dX4_passTitle_84 rfl rfl ?_
                  refine s_istore_n C 86 dX4_passTitle_85 rfl rfl rfl ?_
                  dsimp only [List.set]
                  refine s_aload_n C 87 dX4_passTitle_86 rfl rfl ?_
                  refine s_dup C 88 dX4_passTitle_87 rfl rfl ?_
                  refine s_getf C 91 dX4_passTitle_88 rfl f_X4_19 hX rfl ?_
                  refine s_iconst C 92 (nI 1) dX4_passTitle_91 rfl (by decide) ?_
                  refine s_iaddN C 93 dX4_passTitle_92 rfl ?_
                  refine s_putU C 96 dX4_passTitle_93 rfl p_X4_19 hX (by first | decide | omega) rfl rfl rfl (fs' := [.ref sa, .int (nI n), .int (nI (p9 + 1)), .int cmd, .int val, .int (nI p), .int (nI to)]) rfl (fun M15 U16 => ?_)
                  have hG := U16.o hX hG (by first | decide | omega)
                  have hF := hF.put U16 hX (by first | decide | (simp; done) | (simp; omega) | (simp [*]; done))
                  have hX := U16.s
                  refine s_iinc C 99 (nI (c + 1)) dX4_passTitle_96 rfl rfl (by rw [← nI_add]; rfl) rfl ?_
                  dsimp only [List.set]
                  refine s_goto C 12 dX4_passTitle_99 (by decide) ?_
                  refine V.drop 3 ?_
                  dsimp only [List.set]
                  have hstep : ptF g n (25 - c) p9 nd = ptF g n (25 - (c + 1)) (p9 + 1) true := by
                    rw [show 25 - c = (24 - c) + 1 by omega, ptF, if_pos zp, show 25 - (c + 1) = 24 - c by omega]
                    rw [if_pos z36, if_neg (by simp [z50]; omega)]
                  exact ih12 (c + 1) (p9 + 1) true _ (by omega) (by omega) (by omega) (by omega) (hpt.trans hstep) hX hG hF
                · skip
                  omega
              · skip
                have hend : ptF g n 24 p true = (p9, nd) := by
                  rw [hpt]
                  rw [show 25 - c = (24 - c) + 1 by omega, ptF]
                  rw [if_pos zp, if_pos z36, if_pos (Or.inr (by omega))]
                refine s_goto C 102 dX4_passTitle_59 (by decide) ?_
                refine s_aload_n C 103 dX4_passTitle_102 rfl rfl ?_
                refine s_aload_n C 104 dX4_passTitle_103 rfl rfl ?_
                refine s_getf C 107 dX4_passTitle_104 rfl f_X4_19 hX rfl ?_
                refine s_putU C 110 dX4_passTitle_107 rfl p_X4_59 hX (by first | decide | omega) rfl rfl rfl (fs' := [.ref sa, .int (nI n), .int (nI p9), .int cmd, .int val, .int (nI p), .int (nI p9)]) rfl (fun M17 U18 => ?_)
                have hG := U18.o hX hG (by first | decide | omega)
                have hF := hF.put U18 hX (by first | decide | (simp; done) | (simp; omega) | (simp [*]; done))
                have hX := U18.s
                refine s_iload_n C 111 dX4_passTitle_110 rfl rfl ?_
                refine s_if_neB C 118 114 dX4_passTitle_111 (by decide) rfl (fun z111 => ?_) (fun z111 => ?_)
                · skip
                  refine s_iconst C 119 (nI 0) dX4_passTitle_118 rfl (by decide) ?_
                  exact s_zret C dX4_passTitle_119 Tr rfl (by decide) ⟨rF (by rw [hend]; simp [z111]), by rw [hend]; exact ⟨sa, hX, hG, hn⟩, hF⟩
                · skip
                  refine s_iconst C 115 (nI 1) dX4_passTitle_114 rfl (by decide) ?_
                  refine s_goto C 119 dX4_passTitle_115 (by decide) ?_
                  exact s_zret C dX4_passTitle_119 Tr rfl (by decide) ⟨rT (by rw [hend]; simp [z111]), by rw [hend]; exact ⟨sa, hX, hG, hn⟩, hF⟩

/-- whether the text is a title -/
def itB (g : Nat → Int32) (n : Nat) : Bool := !(ptF g n 24 0 true).2 && decide (n ≤ (ptF g n 24 0 true).1)
set_option maxRecDepth 100000 in
set_option maxHeartbeats 4000000 in
theorem c_isTitle {G : mG} {M : mM} {x n p fr to : Nat} {cmd val : Int32} {g : Nat → Int32} (h : xR M x n p cmd val fr to g) : CC G iX4_isTitle 0 0 [.ref x] M (fun r M1 => r = some (.int (mB (itB g n))) ∧ xR M1 x n (ptF g n 24 0 true).1 cmd val 0 (ptF g n 24 0 true).1 g ∧ mZ [20] M M1) := by
  refine CC.of rfl (Nat.le_of_ble_eq_true rfl) rfl (fun X C Tr => ?_)
  show V X 0 0 0 [some (.ref x)] [] M
  obtain ⟨sa, hX, hG, hn⟩ := h
  have hF : mZ [20] M M := mZ.rf
  refine s_aload_n C 1 dX4_isTitle_0 rfl rfl ?_
  refine s_invV C 4 0 0 [] (mRv_of hX rfl) dX4_isTitle_1 rfl m_X4_22 (c_rewind ⟨sa, hX, hG, hn⟩) rfl rfl rfl ⟨by decide, by decide⟩ (Nat.le_of_ble_eq_true rfl) (by omega) (by omega) ?_
  rintro _ M1 ⟨rfl, hx9, hFx⟩
  dsimp only [Option.toList, List.cons_append, List.nil_append]
  obtain ⟨sa9, hX, hG, -⟩ := hx9
  have hF := hF.tr hFx
  refine s_aload_n C 5 dX4_isTitle_4 rfl rfl ?_
  refine s_invV C 8 0 0 [] (mRv_of hX rfl) dX4_isTitle_5 rfl m_X4_32 (c_passTitle ⟨sa9, hX, hG, hn⟩ (by omega)) rfl rfl rfl ⟨by decide, by decide⟩ (Nat.le_of_ble_eq_true rfl) (by omega) (by omega) ?_
  rintro _ M2 ⟨rfl, hx9, hFx⟩
  dsimp only [Option.toList, List.cons_append, List.nil_append]
  obtain ⟨sa9, hX, hG, -⟩ := hx9
  have hF := hF.tr hFx
  have hle := ptF_le (g := g) (n := n) 24 0 true (by omega)
  refine s_if_eqB C 26 11 dX4_isTitle_8 (by decide) rfl (fun z8 => ?_) (fun z8 => ?_)
  · skip
    have hz : itB g n = false := by unfold itB; rw [z8]; rfl
    refine s_iconst C 27 (nI 0) dX4_isTitle_26 rfl (by decide) ?_
    exact s_zret C dX4_isTitle_27 Tr rfl (by decide) ⟨rF hz, ⟨sa9, hX, hG, hn⟩, hF⟩
  · skip
    refine s_aload_n C 12 dX4_isTitle_11 rfl rfl ?_
    refine s_getf C 15 dX4_isTitle_12 rfl f_X4_19 hX rfl ?_
    refine s_aload_n C 16 dX4_isTitle_15 rfl rfl ?_
    refine s_getf C 19 dX4_isTitle_16 rfl f_X4_15 hX rfl ?_
    refine s_icmp_ltN C 26 22 dX4_isTitle_19 (by decide) rfl (by omega) (by omega) (fun z19 => ?_) (fun z19 => ?_)
    · skip
      have hz : itB g n = false := by unfold itB; rw [decide_eq_false (by omega)]; exact Bool.and_false _
      refine s_iconst C 27 (nI 0) dX4_isTitle_26 rfl (by decide) ?_
      exact s_zret C dX4_isTitle_27 Tr rfl (by decide) ⟨rF hz, ⟨sa9, hX, hG, hn⟩, hF⟩
    · skip
      have hz : itB g n = true := by unfold itB; rw [z8, decide_eq_true (by omega)]; rfl
      refine s_iconst C 23 (nI 1) dX4_isTitle_22 rfl (by decide) ?_
      refine s_goto C 27 dX4_isTitle_23 (by decide) ?_
      exact s_zret C dX4_isTitle_27 Tr rfl (by decide) ⟨rT hz, ⟨sa9, hX, hG, hn⟩, hF⟩

set_option maxRecDepth 100000 in
set_option maxHeartbeats 4000000 in
theorem c_passedTitle {G : mG} {M : mM} {x n p fr to : Nat} {cmd val : Int32} {g : Nat → Int32} (h : xR M x n p cmd val fr to g) (hft : fr ≤ to) (hto : to ≤ n) (h24 : to - fr ≤ 24) (hch : ∀ k, k < n → vp_nar .char (g k) = g k) : CC G iX4_passedTitle 3 52 [.ref x] M (fun r M1 => ∃ a ini, r = some (.ref a) ∧ M a = none ∧ inT (fun j => g (fr + j)) ini (to - fr) ∧ tR M1 a (to - fr) (fun j => g (fr + j)) (1 + cnB (fun j => g (fr + j)) (to - fr)) ini (nI 0) ∧ mZ [] M M1) := by
  refine CC.of rfl (Nat.le_of_ble_eq_true rfl) rfl (fun X C Tr => ?_)
  show V X 3 52 0 [some (.ref x), none, none] [] M
  obtain ⟨sa, hX, hG, hn⟩ := h
  have hF : mZ [] M M := mZ.rf
  refine s_iconst C 1 (nI 0) dX4_passedTitle_0 rfl (by decide) ?_
  refine s_aload_n C 2 dX4_passedTitle_1 rfl rfl ?_
  refine s_getf C 5 dX4_passedTitle_2 rfl f_X4_59 hX rfl ?_
  refine s_aload_n C 6 dX4_passedTitle_5 rfl rfl ?_
  refine s_getf C 9 dX4_passedTitle_6 rfl f_X4_52 hX rfl ?_
  refine s_isubN C 10 dX4_passedTitle_9 rfl (by omega) ?_
  refine s_maxN C 13 dX4_passedTitle_10 rfl mm_X4_81 rfl (by decide) (Nat.le_of_ble_eq_true rfl) (by omega) (by omega) ?_
  refine s_newaU C 15 2 28 3 dX4_passedTitle_13 rfl (Or.inr ⟨rfl, rfl, ac_char⟩) (by omega) (by first | decide | omega) (by omega) (by omega) (fun la M1 hnla U2 => ?_)
  have hX := U2.n hnla hX
  have hG := U2.n hnla hG
  have hnla0 := hF.no hnla
  have hF := hF.new U2 hnla
  have hL := U2.s
  refine s_astore_n C 16 dX4_passedTitle_15 rfl rfl rfl ?_
  dsimp only [List.set]
  refine s_iconst C 17 (nI 0) dX4_passedTitle_16 rfl (by decide) ?_
  refine s_istore_n C 18 dX4_passedTitle_17 rfl rfl rfl ?_
  dsimp only [List.set]
  suffices lp18 : ∀ (fu18 : Nat) (i : Nat) (h9 : Nat → Int32) (M9 : mM), to - fr - i < fu18 → i ≤ to - fr → (∀ j, j < i → h9 j = g (fr + j)) → M9 x = some (20, .inl (5, [.ref sa, .int (nI n), .int (nI p), .int cmd, .int val, .int (nI fr), .int (nI to)])) → M9 sa = some (21, .inr (1, 80, .inl g)) → M9 la = some (3, .inr (1, max 0 (to - fr), .inl h9)) → mZ [] M M9 → V X 2 28 18 [some (.ref x), some (.ref la), some (.int (nI i))] [] M9 from lp18 25 0 _ _ (by omega) (by omega) (fun j hj => by omega) hX hG hL hF
  intro fu18
  induction fu18 with
  | zero => intro i h9 M9 hi0 hi hh hX hG hL hF; omega
  | succ fu18 ih18 =>
    intro i h9 M9 hi0 hi hh hX hG hL hF
    refine s_iload_n C 19 dX4_passedTitle_18 rfl rfl ?_
    refine s_aload_n C 20 dX4_passedTitle_19 rfl rfl ?_
    refine s_alen C 21 dX4_passedTitle_20 rfl hL (by decide) ?_
    refine s_icmp_geN C 58 24 dX4_passedTitle_21 (by decide) rfl (by omega) (by omega) (fun z21 => ?_) (fun z21 => ?_)
    · skip
      have hm0 : max 0 (to - fr) = to - fr := by omega
      have hi9 : i = to - fr := by omega
      rw [hm0] at hL
      refine s_ext la 3 1 (to - fr) (fun j => g (fr + j)) hL (fun j hj => hh j (by omega)) (fun M3 U4 => ?_)
      have hX := U4.o hL hX (by first | decide | omega)
      have hG := U4.o hL hG (by first | decide | omega)
      have hF := hF.putn U4 hnla0
      have hL := U4.s
      refine s_aload_n C 59 dX4_passedTitle_58 rfl rfl ?_
      refine s_invS C 62 0 0 [] dX4_passedTitle_59 rfl m_X4_119 (c_unused hL (by omega) (fun k hk => hch _ (by omega))) rfl rfl rfl ⟨by decide, by decide⟩ (Nat.le_of_ble_eq_true rfl) (by omega) (by omega) ?_
      rintro _ M5 ⟨a, ini, rfl, hna, hin, hT, hG1, hG2⟩
      dsimp only [Option.toList, List.cons_append, List.nil_append]
      exact s_aret C dX4_passedTitle_62 Tr rfl (Or.inl ⟨_, rfl⟩) ⟨a, ini, rfl, hF.no hna, hin, hT, ⟨fun b t e hb _ => hG1 b _ (fun q => by rw [q, hnla0] at hb; cases hb) (hF.at hb (fun h => nomatch h)), fun b hb => hF.no (hG2 b hb)⟩⟩
    · skip
      refine s_aload_n C 25 dX4_passedTitle_24 rfl rfl ?_
      refine s_getf C 28 dX4_passedTitle_25 rfl f_X4_52 hX rfl ?_
      refine s_iload_n C 29 dX4_passedTitle_28 rfl rfl ?_
      refine s_iaddN C 30 dX4_passedTitle_29 rfl ?_
      refine s_aload_n C 31 dX4_passedTitle_30 rfl rfl ?_
      refine s_getf C 34 dX4_passedTitle_31 rfl f_X4_9 hX rfl ?_
      refine s_alen C 35 dX4_passedTitle_34 rfl hG (by decide) ?_
      refine s_icmp_geN C 58 38 dX4_passedTitle_35 (by decide) rfl (by omega) (by omega) (fun z35 => ?_) (fun z35 => ?_)
      · skip
        omega
      · skip
        refine s_aload_n C 39 dX4_passedTitle_38 rfl rfl ?_
        refine s_iload_n C 40 dX4_passedTitle_39 rfl rfl ?_
        refine s_aload_n C 41 dX4_passedTitle_40 rfl rfl ?_
        refine s_getf C 44 dX4_passedTitle_41 rfl f_X4_9 hX rfl ?_
        refine s_aload_n C 45 dX4_passedTitle_44 rfl rfl ?_
        refine s_getf C 48 dX4_passedTitle_45 rfl f_X4_52 hX rfl ?_
        refine s_iload_n C 49 dX4_passedTitle_48 rfl rfl ?_
        refine s_iaddN C 50 dX4_passedTitle_49 rfl ?_
        refine s_cald C 51 dX4_passedTitle_50 rfl hG (by omega) (by omega) ?_
        refine s_castU C 52 dX4_passedTitle_51 rfl hL (by first | decide | omega) (by omega) (by omega) (hch _ (by omega)) (fun M6 U7 => ?_)
        have hX := U7.o hL hX (by first | decide | omega)
        have hG := U7.o hL hG (by first | decide | omega)
        have hF := hF.putn U7 hnla0
        have hL := U7.s
        refine s_iinc C 55 (nI (i + 1)) dX4_passedTitle_52 rfl rfl (by rw [← nI_add]; rfl) rfl ?_
        dsimp only [List.set]
        refine s_goto C 18 dX4_passedTitle_55 (by decide) ?_
        exact ih18 (i + 1) _ _ (by omega) (by omega) (fun j hj => by by_cases e : j = i; (· rw [e]; exact pk_us); rw [pk_un e]; exact hh j (by omega)) hX hG hL hF

theorem sR_rv {G : mG} {M : mM} {k s T mo od ql : Nat} {q : Nat → Int32} {ln : Nat → Nat} {fl : Nat → Nat → Int32} {us : Nat → Int32} (h : sR G M k s T mo od ql q ln fl us) : mRv G M RX2 s := by
  obtain ⟨la, qa, cap, g, ad, ifn, h1, -⟩ := h
  exact mRv_of h1 rfl
set_option maxRecDepth 100000 in
set_option maxHeartbeats 4000000 in
theorem c_textInit {G : mG} {M : mM} {x : Nat} (hX : M x = some (20, .inl (5, [.null, .int 0, .int 0, .int 0, .int 0, .int 0, .int 0]))) : CC G iX4_init 1 80 [.ref x] M (fun r M1 => r = none ∧ xR M1 x 0 0 0 0 0 0 (fun _ => 0) ∧ mZ [20] M M1) := by
  refine CC.of rfl (Nat.le_of_ble_eq_true rfl) rfl (fun X C Tr => ?_)
  show V X 1 80 0 [some (.ref x)] [] M
  have hF : mZ [20] M M := mZ.rf
  refine s_aload_n C 1 dX4_init_0 rfl rfl ?_
  refine s_oi C 4 dX4_init_1 rfl oi_X4_3 rfl (by decide) (Nat.le_of_ble_eq_true rfl) ?_
  refine s_aload_n C 5 dX4_init_4 rfl rfl ?_
  refine s_bipush C 7 (nI 80) dX4_init_5 rfl (by decide) ?_
  refine s_newaU C 9 0 0 21 dX4_init_7 rfl (Or.inr ⟨rfl, rfl, ac_char⟩) (by omega) (by first | decide | omega) (by omega) (by omega) (fun sa M1 hnsa U2 => ?_)
  have hX := U2.n hnsa hX
  have hnsa0 := hF.no hnsa
  have hF := hF.new U2 hnsa
  have hG := U2.s
  refine s_putFU C 12 dX4_init_9 rfl p_X4_9 rfl hX (by first | decide | omega) rfl rfl rfl (fs' := [.ref sa, .int 0, .int 0, .int 0, .int 0, .int 0, .int 0]) rfl (fun M3 U4 => ?_)
  have hG := U4.o hX hG (by first | decide | omega)
  have hF := hF.put U4 hX (by first | decide | (simp; done) | (simp; omega) | (simp [*]; done))
  have hX := U4.s
  exact s_vret C dX4_init_12 Tr rfl ⟨rfl, ⟨sa, hX, hG, by omega⟩, hF⟩
