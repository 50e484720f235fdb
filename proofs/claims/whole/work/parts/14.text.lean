theorem vp_cell_ext {c : ClassId} {n : Nat} {f f' : Nat → Int32} (hf : ∀ j, j < n → f j = f' j) : vp_cell c (n, .inl f) = vp_cell c (n, .inl f') := by
  rw [vp_cell_i, vp_cell_i]
  unfold arrV
  congr 1
  refine congrArg Array.ofFn (funext fun j => ?_)
  show Value.int (f j.1) = Value.int (f' j.1)
  rw [hf j.1 j.2]
theorem mR_cell {G : mG} {M : mM} {H : Heap} {locs : List Loc} {a t : Nat} {e e' : mE} (h : mR G M H locs) (ha : M a = some (t, e)) (ht : t ≠ 0) (he : va_at G.2.2.1 vwCl (a, mv G.2.2.2.1 e) H → va_at G.2.2.1 vwCl (a, mv G.2.2.2.1 e') H) : mR G (mup M a (t, e')) H locs := by
  refine ⟨fun b tb eb hb => ?_, fun b tb eb hb => ?_, h.2.2⟩
  · by_cases hba : b = a
    · subst hba
      rw [mup_s] at hb
      cases hb
      exact Or.inl ⟨ht, he ((h.1 b t e ha).z ht)⟩
    · rw [mup_n hba] at hb
      exact h.1 b tb eb hb
  · by_cases hba : b = a
    · subst hba
      rw [mup_s] at hb
      cases hb
      exact h.2.1 b t e ha
    · rw [mup_n hba] at hb
      exact h.2.1 b tb eb hb
/-- a row's contents beyond its length are of no account -/
theorem s_ext {X : mX} {bc bs pc : Nat} {L : List (Option Value)} {st : List Value} {M : mM} (a t kd n : Nat) {f : Nat → Int32} (f' : Nat → Int32) (ha : M a = some (t, .inr (kd, n, .inl f))) (hf : ∀ j, j < n → f j = f' j) (h : ∀ M1, mU M a (t, .inr (kd, n, .inl f')) M1 → V X bc bs pc L st M1) : V X bc bs pc L st M := by
  have h9 := h _ mU.up
  obtain ⟨p, e0, R, s, m, args, below, meth, c, Q, mc, ms, G⟩ := X
  intro H locs cells slots ls hR hc hs hl
  refine h9 H locs cells slots ls (mR_cell hR ha (hR.1 a t _ ha).f.1 (fun q => ?_)) hc hs hl
  have q1 : H[a]? = some (vp_cell (G.2.2.2.1 kd) (n, .inl f)) := q
  show H[a]? = some (vp_cell (G.2.2.2.1 kd) (n, .inl f'))
  rw [q1, vp_cell_ext hf]
/-! pure words: reading the text -/
def isD (c : Int32) : Bool := decide (¬ c < nI 48 ∧ ¬ nI 57 < c)
def isL (c : Int32) : Bool := decide (¬ c < nI 97 ∧ c ≤ nI 122) || isD c
def dg (c : Int32) : Nat := c.toNatClampNeg - 48
theorem isD_dg {c : Int32} (h : isD c = true) : c = nI (48 + dg c) ∧ dg c < 10 := by
  unfold isD at h
  obtain ⟨h1, h2⟩ := of_decide_eq_true h
  have h0 : ¬ c < 0 := by
    intro z
    exact h1 (by rw [Int32.lt_iff_toInt_lt] at z ⊢; rw [nI_toInt (by omega)]; rw [Int32.toInt_zero] at z; omega)
  obtain ⟨j, hj, rfl⟩ := nI_of h0
  rw [nI_ltI hj (by omega)] at h1
  rw [nI_ltI (by omega) hj] at h2
  unfold dg
  rw [nI_clamp hj]
  exact ⟨by rw [show 48 + (j - 48) = j by omega], by omega⟩
theorem isD_sub {c : Int32} (h : isD c = true) : c - nI 48 = nI (dg c) := by
  have h1 := (isD_dg h).1
  rw [show c - nI 48 = nI (48 + dg c) - nI 48 by rw [← h1], pk_sub (by omega), show 48 + dg c - 48 = dg c by omega]
/-- a title from p on: where it ends, and whether a letter is wanted still -/
def ptF (g : Nat → Int32) (n : Nat) : Nat → Nat → Bool → Nat × Bool
  | 0, p, nd => (p, nd)
  | fu + 1, p, nd => if p < n then (if g p = nI 32 then (if nd = true ∨ fu = 0 then (p, nd) else ptF g n fu (p + 1) true) else if isL (g p) = true then ptF g n fu (p + 1) false else (p, nd)) else (p, nd)
theorem ptF_le {g : Nat → Int32} {n : Nat} : ∀ (fu p : Nat) (nd : Bool), p ≤ n → p ≤ (ptF g n fu p nd).1 ∧ (ptF g n fu p nd).1 ≤ n ∧ (ptF g n fu p nd).1 ≤ p + fu := by
  intro fu
  induction fu with
  | zero => intro p nd h; exact ⟨Nat.le_refl _, h, Nat.le_refl _⟩
  | succ fu ih =>
    intro p nd h
    rw [ptF]
    split
    · rename_i h1
      have i1 := ih (p + 1) true (by omega)
      have i2 := ih (p + 1) false (by omega)
      split
      · split
        · exact ⟨Nat.le_refl _, h, by show p ≤ _; omega⟩
        · omega
      · split
        · omega
        · exact ⟨Nat.le_refl _, h, by show p ≤ _; omega⟩
    · exact ⟨Nat.le_refl _, h, by show p ≤ _; omega⟩
/-- a number -/
def pnN (g : Nat → Int32) (n p : Nat) : Nat := if p < n ∧ isD (g p) = true then (if p + 1 < n ∧ isD (g (p + 1)) = true then 2 else 1) else 0
def pnV (g : Nat → Int32) (n p : Nat) : Nat := if pnN g n p = 2 then 10 * (10 * 0 + dg (g p)) + dg (g (p + 1)) else if pnN g n p = 1 then 10 * 0 + dg (g p) else 0
theorem pnN_le {g : Nat → Int32} {n p : Nat} (h : p ≤ n) : p + pnN g n p ≤ n ∧ pnN g n p ≤ 2 := by
  unfold pnN
  split
  · split <;> omega
  · omega
/-- how far a word is read -/
def mw (g : Nat → Int32) (n p i : Nat) : Nat → Nat → Nat
  | s, 0 => s
  | s, fu + 1 => if p + s < n ∧ g (p + s) = nI (wdC i s) then mw g n p i (s + 1) fu else s
def mW0 (g : Nat → Int32) (n p i : Nat) : Nat := mw g n p i 0 (wdL i)
theorem mw_le {g : Nat → Int32} {n p i : Nat} : ∀ (fu s : Nat), p + s ≤ n → s ≤ mw g n p i s fu ∧ mw g n p i s fu ≤ s + fu ∧ p + mw g n p i s fu ≤ n := by
  intro fu
  induction fu with
  | zero => intro s h; exact ⟨Nat.le_refl _, Nat.le_refl _, h⟩
  | succ fu ih =>
    intro s h
    rw [mw]
    split
    · have := ih (s + 1) (by omega)
      omega
    · omega
/-- one of the words from k on -/
def po (g : Nat → Int32) (n p : Nat) : Nat → Nat → Nat → Option Nat × Nat
  | _, 0, most => (none, p + most)
  | k, fu + 1, most => if mW0 g n p k = wdL k then (some k, p + wdL k) else po g n p (k + 1) fu (max most (mW0 g n p k))
theorem po_le {g : Nat → Int32} {n p : Nat} : ∀ (fu k most : Nat), p + most ≤ n → p + most ≤ (po g n p k fu most).2 + most ∧ p ≤ (po g n p k fu most).2 ∧ (po g n p k fu most).2 ≤ n ∧ ∀ j, (po g n p k fu most).1 = some j → k ≤ j ∧ j < k + fu := by
  intro fu
  induction fu with
  | zero => intro k most h; exact ⟨by show p + most ≤ p + most + most; omega, by show p ≤ p + most; omega, h, fun j hj => by cases hj⟩
  | succ fu ih =>
    intro k most h
    have hm := mw_le (g := g) (n := n) (p := p) (i := k) (wdL k) 0 (by omega)
    rw [po]
    split
    · rename_i e
      unfold mW0 at e
      refine ⟨?_, ?_, ?_, fun j hj => ?_⟩
      · show p + most ≤ p + wdL k + most; omega
      · show p ≤ p + wdL k; omega
      · show p + wdL k ≤ n; omega
      · cases hj; omega
    · have := ih (k + 1) (max most (mW0 g n p k)) (by unfold mW0; omega)
      refine ⟨by omega, this.2.1, this.2.2.1, fun j hj => ?_⟩
      have := this.2.2.2 j hj
      omega
def scB (g : Nat → Int32) (n p : Nat) : Bool := decide (p < n ∧ g p = nI 59)
/-- a command: which one, where its word ends, where it ends, whether it is whole, its number -/
def cmK (g : Nat → Int32) (n p : Nat) : Option Nat := (po g n p 0 7 0).1
def cmP (g : Nat → Int32) (n p : Nat) : Nat := (po g n p 0 7 0).2
def cmA (g : Nat → Int32) (n p : Nat) : Nat := match cmK g n p with
  | some 0 => (ptF g n 24 (cmP g n p) true).1
  | some 4 => (ptF g n 24 (cmP g n p) true).1
  | some 1 => cmP g n p + pnN g n (cmP g n p)
  | some 5 => cmP g n p + pnN g n (cmP g n p)
  | some 2 => (po g n (cmP g n p) 7 4 0).2
  | some 3 => (po g n (cmP g n p) 11 3 0).2
  | _ => cmP g n p
def cmO (g : Nat → Int32) (n p : Nat) : Bool := match cmK g n p with
  | some 0 => !(ptF g n 24 (cmP g n p) true).2
  | some 4 => !(ptF g n 24 (cmP g n p) true).2
  | some 1 => decide (0 < pnN g n (cmP g n p))
  | some 5 => decide (0 < pnN g n (cmP g n p))
  | some 2 => (po g n (cmP g n p) 7 4 0).1.isSome
  | some 3 => (po g n (cmP g n p) 11 3 0).1.isSome
  | some 6 => true
  | _ => false
def cmV (g : Nat → Int32) (n p : Nat) : Nat := match cmK g n p with
  | some 1 => pnV g n (cmP g n p)
  | some 5 => pnV g n (cmP g n p)
  | some 2 => ((po g n (cmP g n p) 7 4 0).1.getD 7) - 7
  | some 3 => ((po g n (cmP g n p) 11 3 0).1.getD 11) - 11
  | _ => 0
/-- the first place at which no plan goes on; none for a plan -/
def ffO (g : Nat → Int32) (n : Nat) : Nat → Nat → Option Nat
  | 0, p => some p
  | fu + 1, p => if cmO g n p = true then (if n ≤ cmA g n p then none else if scB g n (cmA g n p) = true then ffO g n fu (cmA g n p + 1) else some (cmA g n p)) else some (cmA g n p)
/-- the text's cells -/
def xR (M : mM) (x n p : Nat) (cmd val : Int32) (fr to : Nat) (g : Nat → Int32) : Prop := ∃ sa, M x = some (20, .inl (5, [.ref sa, .int (nI n), .int (nI p), .int cmd, .int val, .int (nI fr), .int (nI to)])) ∧ M sa = some (21, .inr (1, 80, .inl g)) ∧ n ≤ 80
theorem xR.at {T : List Nat} {M M1 : mM} {x n p fr to : Nat} {cmd val : Int32} {g : Nat → Int32} (hF : mZ T M M1) (h0 : 20 ∉ T) (h1 : 21 ∉ T) (h : xR M x n p cmd val fr to g) : xR M1 x n p cmd val fr to g := by
  obtain ⟨sa, h2, h3, h4⟩ := h
  exact ⟨sa, hF.at h2 h0, hF.at h3 h1, h4⟩
theorem oI_n {o : Option Nat} (h : ∀ j, o = some j → j < 100) : oI o = -6 ↔ o = none := by
  cases o with
  | none => exact ⟨fun _ => rfl, fun _ => rfl⟩
  | some j =>
    constructor
    · intro e
      have hj := h j rfl
      have h1 : (nI j).toInt = (-6 : Int32).toInt := congrArg Int32.toInt e
      rw [nI_toInt (by omega)] at h1
      exact absurd h1 (by have : (-6 : Int32).toInt = -6 := by decide
                          omega)
    · intro e; cases e
set_option maxRecDepth 100000 in
set_option maxHeartbeats 4000000 in
theorem c_isDigit {G : mG} {M : mM} {c : Int32} : CC G iX4_isDigit 0 0 [.int c] M (fun r M1 => r = some (.int (mB (isD c))) ∧ M = M1) := by
  refine CC.of rfl (Nat.le_of_ble_eq_true rfl) rfl (fun X C Tr => ?_)
  show V X 0 0 0 [some (.int c)] [] M
  refine s_iload_n C 1 dX4_isDigit_0 rfl rfl ?_
  refine s_bipush C 3 (nI 48) dX4_isDigit_1 rfl (by decide) ?_
  refine s_icmp_lt C 16 6 dX4_isDigit_3 (by decide) rfl (fun z3 => ?_) (fun z3 => ?_)
  · skip
    refine s_iconst C 17 (nI 0) dX4_isDigit_16 rfl (by decide) ?_
    exact s_zret C dX4_isDigit_17 Tr rfl (by decide) ⟨rF (by simp [isD, *]), rfl⟩
  · skip
    refine s_iload_n C 7 dX4_isDigit_6 rfl rfl ?_
    refine s_bipush C 9 (nI 57) dX4_isDigit_7 rfl (by decide) ?_
    refine s_icmp_gt C 16 12 dX4_isDigit_9 (by decide) rfl (fun z9 => ?_) (fun z9 => ?_)
    · skip
      refine s_iconst C 17 (nI 0) dX4_isDigit_16 rfl (by decide) ?_
      exact s_zret C dX4_isDigit_17 Tr rfl (by decide) ⟨rF (by simp [isD, *]), rfl⟩
    · skip
      refine s_iconst C 13 (nI 1) dX4_isDigit_12 rfl (by decide) ?_
      refine s_goto C 17 dX4_isDigit_13 (by decide) ?_
      exact s_zret C dX4_isDigit_17 Tr rfl (by decide) ⟨rT (by simp [isD, *]), rfl⟩

set_option maxRecDepth 100000 in
set_option maxHeartbeats 4000000 in
theorem c_isLetter {G : mG} {M : mM} {c : Int32} : CC G iX4_isLetter 0 0 [.int c] M (fun r M1 => r = some (.int (mB (isL c))) ∧ M = M1) := by
  refine CC.of rfl (Nat.le_of_ble_eq_true rfl) rfl (fun X C Tr => ?_)
  show V X 0 0 0 [some (.int c)] [] M
  refine s_iload_n C 1 dX4_isLetter_0 rfl rfl ?_
  refine s_bipush C 3 (nI 97) dX4_isLetter_1 rfl (by decide) ?_
  refine s_icmp_lt C 12 6 dX4_isLetter_3 (by decide) rfl (fun z3 => ?_) (fun z3 => ?_)
  · skip
    refine s_iload_n C 13 dX4_isLetter_12 rfl rfl ?_
    refine s_invS C 16 0 0 [] dX4_isLetter_13 rfl m_X4_65 (c_isDigit) rfl rfl rfl ⟨by decide, by decide⟩ (Nat.le_of_ble_eq_true rfl) (by omega) (by omega) ?_
    rintro _ M1 ⟨rfl, rfl⟩
    dsimp only [Option.toList, List.cons_append, List.nil_append]
    refine s_if_eqB C 23 19 dX4_isLetter_16 (by decide) rfl (fun z16 => ?_) (fun z16 => ?_)
    · skip
      refine s_iconst C 24 (nI 0) dX4_isLetter_23 rfl (by decide) ?_
      exact s_zret C dX4_isLetter_24 Tr rfl (by decide) ⟨rF (by simp [isL, *]), rfl⟩
    · skip
      refine s_iconst C 20 (nI 1) dX4_isLetter_19 rfl (by decide) ?_
      refine s_goto C 24 dX4_isLetter_20 (by decide) ?_
      exact s_zret C dX4_isLetter_24 Tr rfl (by decide) ⟨rT (by simp [isL, *]), rfl⟩
  · skip
    refine s_iload_n C 7 dX4_isLetter_6 rfl rfl ?_
    refine s_bipush C 9 (nI 122) dX4_isLetter_7 rfl (by decide) ?_
    refine s_icmp_le C 19 12 dX4_isLetter_9 (by decide) rfl (fun z9 => ?_) (fun z9 => ?_)
    · skip
      refine s_iconst C 20 (nI 1) dX4_isLetter_19 rfl (by decide) ?_
      refine s_goto C 24 dX4_isLetter_20 (by decide) ?_
      exact s_zret C dX4_isLetter_24 Tr rfl (by decide) ⟨rT (by simp [isL, *]), rfl⟩
    · skip
      refine s_iload_n C 13 dX4_isLetter_12 rfl rfl ?_
      refine s_invS C 16 0 0 [] dX4_isLetter_13 rfl m_X4_65 (c_isDigit) rfl rfl rfl ⟨by decide, by decide⟩ (Nat.le_of_ble_eq_true rfl) (by omega) (by omega) ?_
      rintro _ M2 ⟨rfl, rfl⟩
      dsimp only [Option.toList, List.cons_append, List.nil_append]
      refine s_if_eqB C 23 19 dX4_isLetter_16 (by decide) rfl (fun z16 => ?_) (fun z16 => ?_)
      · skip
        refine s_iconst C 24 (nI 0) dX4_isLetter_23 rfl (by decide) ?_
        exact s_zret C dX4_isLetter_24 Tr rfl (by decide) ⟨rF (by simp [isL, *]), rfl⟩
      · skip
        refine s_iconst C 20 (nI 1) dX4_isLetter_19 rfl (by decide) ?_
        refine s_goto C 24 dX4_isLetter_20 (by decide) ?_
        exact s_zret C dX4_isLetter_24 Tr rfl (by decide) ⟨rT (by simp [isL, *]), rfl⟩

set_option maxRecDepth 100000 in
set_option maxHeartbeats 4000000 in
/-- c_hasSign -/
theorem c_hasSign {G : mG} {M : mM} {x n p fr to : Nat} {cmd val : Int32} {g : Nat → Int32} (h : xR M x n p cmd val fr to g) (hp : p < 100000) : CC G iX4_hasSign 0 0 [.ref x] M (fun r M1 => r = some (.int (mB (decide (p < n)))) ∧ M = M1) := by
  refine CC.of rfl (Nat.le_of_ble_eq_true rfl) rfl (fun X C Tr => ?_)
  show V X 0 0 0 [some (.ref x)] [] M
  obtain ⟨sa, hX, hG, hn⟩ := h
  refine s_aload_n C 1 dX4_hasSign_0 rfl rfl ?_
  refine s_getf C 4 dX4_hasSign_1 rfl f_X4_19 hX rfl ?_
  refine s_if_ltN C 7 (t := 34) dX4_hasSign_4 (by decide) rfl (by omega) ?_
  refine s_aload_n C 8 dX4_hasSign_7 rfl rfl ?_
  refine s_getf C 11 dX4_hasSign_8 rfl f_X4_19 hX rfl ?_
  refine s_aload_n C 12 dX4_hasSign_11 rfl rfl ?_
  refine s_getf C 15 dX4_hasSign_12 rfl f_X4_15 hX rfl ?_
  refine s_icmp_geN C 34 18 dX4_hasSign_15 (by decide) rfl (by omega) (by omega) (fun z15 => ?_) (fun z15 => ?_)
  · skip
    refine s_iconst C 35 (nI 0) dX4_hasSign_34 rfl (by decide) ?_
    exact s_zret C dX4_hasSign_35 Tr rfl (by decide) ⟨rF (by simp; omega), rfl⟩
  · skip
    refine s_aload_n C 19 dX4_hasSign_18 rfl rfl ?_
    refine s_getf C 22 dX4_hasSign_19 rfl f_X4_19 hX rfl ?_
    refine s_aload_n C 23 dX4_hasSign_22 rfl rfl ?_
    refine s_getf C 26 dX4_hasSign_23 rfl f_X4_9 hX rfl ?_
    refine s_alen C 27 dX4_hasSign_26 rfl hG (by decide) ?_
    refine s_icmp_geN C 34 30 dX4_hasSign_27 (by decide) rfl (by omega) (by omega) (fun z27 => ?_) (fun z27 => ?_)
    · skip
      omega
    · skip
      refine s_iconst C 31 (nI 1) dX4_hasSign_30 rfl (by decide) ?_
      refine s_goto C 35 dX4_hasSign_31 (by decide) ?_
      exact s_zret C dX4_hasSign_35 Tr rfl (by decide) ⟨rT (by simp; omega), rfl⟩

set_option maxRecDepth 100000 in
set_option maxHeartbeats 4000000 in
/-- c_makeEmpty -/
theorem c_makeEmpty {G : mG} {M : mM} {x n p fr to : Nat} {cmd val : Int32} {g : Nat → Int32} (h : xR M x n p cmd val fr to g) : CC G iX4_makeEmpty 0 0 [.ref x] M (fun r M1 => r = none ∧ xR M1 x 0 p cmd val fr to g ∧ mZ [20] M M1) := by
  refine CC.of rfl (Nat.le_of_ble_eq_true rfl) rfl (fun X C Tr => ?_)
  show V X 0 0 0 [some (.ref x)] [] M
  obtain ⟨sa, hX, hG, hn⟩ := h
  have hF : mZ [20] M M := mZ.rf
  refine s_aload_n C 1 dX4_makeEmpty_0 rfl rfl ?_
  refine s_iconst C 2 (nI 0) dX4_makeEmpty_1 rfl (by decide) ?_
  refine s_putU C 5 dX4_makeEmpty_2 rfl p_X4_15 hX (by first | decide | omega) rfl rfl rfl (fs' := [.ref sa, .int (nI 0), .int (nI p), .int cmd, .int val, .int (nI fr), .int (nI to)]) rfl (fun M1 U2 => ?_)
  have hG := U2.o hX hG (by first | decide | omega)
  have hF := hF.put U2 hX (by first | decide | (simp; done) | (simp; omega) | (simp [*]; done))
  have hX := U2.s
  exact s_vret C dX4_makeEmpty_5 Tr rfl ⟨rfl, ⟨sa, hX, hG, by omega⟩, hF⟩

set_option maxRecDepth 100000 in
set_option maxHeartbeats 4000000 in
/-- c_rewind -/
theorem c_rewind {G : mG} {M : mM} {x n p fr to : Nat} {cmd val : Int32} {g : Nat → Int32} (h : xR M x n p cmd val fr to g) : CC G iX4_rewind 0 0 [.ref x] M (fun r M1 => r = none ∧ xR M1 x n 0 cmd val fr to g ∧ mZ [20] M M1) := by
  refine CC.of rfl (Nat.le_of_ble_eq_true rfl) rfl (fun X C Tr => ?_)
  show V X 0 0 0 [some (.ref x)] [] M
  obtain ⟨sa, hX, hG, hn⟩ := h
  have hF : mZ [20] M M := mZ.rf
  refine s_aload_n C 1 dX4_rewind_0 rfl rfl ?_
  refine s_iconst C 2 (nI 0) dX4_rewind_1 rfl (by decide) ?_
  refine s_putU C 5 dX4_rewind_2 rfl p_X4_19 hX (by first | decide | omega) rfl rfl rfl (fs' := [.ref sa, .int (nI n), .int (nI 0), .int cmd, .int val, .int (nI fr), .int (nI to)]) rfl (fun M1 U2 => ?_)
  have hG := U2.o hX hG (by first | decide | omega)
  have hF := hF.put U2 hX (by first | decide | (simp; done) | (simp; omega) | (simp [*]; done))
  have hX := U2.s
  exact s_vret C dX4_rewind_5 Tr rfl ⟨rfl, ⟨sa, hX, hG, hn⟩, hF⟩

set_option maxRecDepth 100000 in
set_option maxHeartbeats 4000000 in
theorem c_append4 {G : mG} {M : mM} {x n p fr to : Nat} {cmd val : Int32} {g : Nat → Int32} (h : xR M x n p cmd val fr to g) {c : Int32} (hc : vp_nar .char c = c) : CC G iX4_append 0 0 [.ref x, .int c] M (fun r M1 => r = some (.int (mB (decide (n < 80)))) ∧ (n < 80 → xR M1 x (n + 1) p cmd val fr to (upd g n c) ∧ mZ [20, 21] M M1) ∧ (80 ≤ n → M = M1)) := by
  refine CC.of rfl (Nat.le_of_ble_eq_true rfl) rfl (fun X C Tr => ?_)
  show V X 0 0 0 [some (.ref x), some (.int c)] [] M
  obtain ⟨sa, hX, hG, hn⟩ := h
  have hF : mZ [20, 21] M M := mZ.rf
  refine s_aload_n C 1 dX4_append_0 rfl rfl ?_
  refine s_getf C 4 dX4_append_1 rfl f_X4_15 hX rfl ?_
  refine s_if_ltN C 7 (t := 19) dX4_append_4 (by decide) rfl (by omega) ?_
  refine s_aload_n C 8 dX4_append_7 rfl rfl ?_
  refine s_getf C 11 dX4_append_8 rfl f_X4_15 hX rfl ?_
  refine s_aload_n C 12 dX4_append_11 rfl rfl ?_
  refine s_getf C 15 dX4_append_12 rfl f_X4_9 hX rfl ?_
  refine s_alen C 16 dX4_append_15 rfl hG (by decide) ?_
  refine s_icmp_ltN C 21 19 dX4_append_16 (by decide) rfl (by omega) (by omega) (fun z16 => ?_) (fun z16 => ?_)
  · skip
    refine s_aload_n C 22 dX4_append_21 rfl rfl ?_
    refine s_getf C 25 dX4_append_22 rfl f_X4_9 hX rfl ?_
    refine s_aload_n C 26 dX4_append_25 rfl rfl ?_
    refine s_getf C 29 dX4_append_26 rfl f_X4_15 hX rfl ?_
    refine s_iload_n C 30 dX4_append_29 rfl rfl ?_
    refine s_castU C 31 dX4_append_30 rfl hG (by first | decide | omega) (by omega) (by omega) (hc) (fun M1 U2 => ?_)
    have hX := U2.o hG hX (by first | decide | omega)
    have hF := hF.put U2 hG (by first | decide | (simp; done) | (simp; omega) | (simp [*]; done))
    have hG := U2.s
    refine s_aload_n C 32 dX4_append_31 rfl rfl ?_
    refine s_dup C 33 dX4_append_32 rfl rfl ?_
    refine s_getf C 36 dX4_append_33 rfl f_X4_15 hX rfl ?_
    refine s_iconst C 37 (nI 1) dX4_append_36 rfl (by decide) ?_
    refine s_iaddN C 38 dX4_append_37 rfl ?_
    refine s_putU C 41 dX4_append_38 rfl p_X4_15 hX (by first | decide | omega) rfl rfl rfl (fs' := [.ref sa, .int (nI (n + 1)), .int (nI p), .int cmd, .int val, .int (nI fr), .int (nI to)]) rfl (fun M3 U4 => ?_)
    have hG := U4.o hX hG (by first | decide | omega)
    have hF := hF.put U4 hX (by first | decide | (simp; done) | (simp; omega) | (simp [*]; done))
    have hX := U4.s
    refine s_iconst C 42 (nI 1) dX4_append_41 rfl (by decide) ?_
    exact s_zret C dX4_append_42 Tr rfl (by decide) ⟨rT (by simp; omega), fun _ => ⟨⟨sa, hX, hG, by omega⟩, hF⟩, fun hh => by omega⟩
  · skip
    refine s_iconst C 20 (nI 0) dX4_append_19 rfl (by decide) ?_
    exact s_zret C dX4_append_20 Tr rfl (by decide) ⟨rF (by simp; omega), fun hh => by omega, fun _ => rfl⟩

set_option maxRecDepth 100000 in
set_option maxHeartbeats 4000000 in
theorem c_semi {G : mG} {M : mM} {x n p fr to : Nat} {cmd val : Int32} {g : Nat → Int32} (h : xR M x n p cmd val fr to g) (hp : p < 100000) : CC G iX4_passSemicolon 0 0 [.ref x] M (fun r M1 => r = some (.int (mB (scB g n p))) ∧ xR M1 x n (if scB g n p = true then p + 1 else p) cmd val fr to g ∧ mZ [20] M M1) := by
  refine CC.of rfl (Nat.le_of_ble_eq_true rfl) rfl (fun X C Tr => ?_)
  show V X 0 0 0 [some (.ref x)] [] M
  obtain ⟨sa, hX, hG, hn⟩ := h
  have hF : mZ [20] M M := mZ.rf
  refine s_aload_n C 1 dX4_passSemicolon_0 rfl rfl ?_
  refine s_invV C 4 0 0 [] (mRv_of hX rfl) dX4_passSemicolon_1 rfl m_X4_49 (c_hasSign ⟨sa, hX, hG, hn⟩ (by omega)) rfl rfl rfl ⟨by decide, by decide⟩ (Nat.le_of_ble_eq_true rfl) (by omega) (by omega) ?_
  rintro _ M1 ⟨rfl, rfl⟩
  dsimp only [Option.toList, List.cons_append, List.nil_append]
  refine s_if_eqB C 21 7 dX4_passSemicolon_4 (by decide) rfl (fun z4 => ?_) (fun z4 => ?_)
  · skip
    have hz : scB g n p = false := by have := of_decide_eq_false z4; unfold scB; exact decide_eq_false (fun q => this q.1)
    refine s_iconst C 22 (nI 0) dX4_passSemicolon_21 rfl (by decide) ?_
    exact s_zret C dX4_passSemicolon_22 Tr rfl (by decide) ⟨rF hz, by rw [hz]; exact ⟨sa, hX, hG, hn⟩, hF⟩
  · skip
    have zp : p < n := of_decide_eq_true z4
    refine s_aload_n C 8 dX4_passSemicolon_7 rfl rfl ?_
    refine s_getf C 11 dX4_passSemicolon_8 rfl f_X4_9 hX rfl ?_
    refine s_aload_n C 12 dX4_passSemicolon_11 rfl rfl ?_
    refine s_getf C 15 dX4_passSemicolon_12 rfl f_X4_19 hX rfl ?_
    refine s_cald C 16 dX4_passSemicolon_15 rfl hG (by omega) (by omega) ?_
    refine s_bipush C 18 (nI 59) dX4_passSemicolon_16 rfl (by decide) ?_
    refine s_icmp_eq C 23 21 dX4_passSemicolon_18 (by decide) rfl (fun z18 => ?_) (fun z18 => ?_)
    · skip
      have hz : scB g n p = true := decide_eq_true ⟨zp, z18⟩
      refine s_aload_n C 24 dX4_passSemicolon_23 rfl rfl ?_
      refine s_dup C 25 dX4_passSemicolon_24 rfl rfl ?_
      refine s_getf C 28 dX4_passSemicolon_25 rfl f_X4_19 hX rfl ?_
      refine s_iconst C 29 (nI 1) dX4_passSemicolon_28 rfl (by decide) ?_
      refine s_iaddN C 30 dX4_passSemicolon_29 rfl ?_
      refine s_putU C 33 dX4_passSemicolon_30 rfl p_X4_19 hX (by first | decide | omega) rfl rfl rfl (fs' := [.ref sa, .int (nI n), .int (nI (p + 1)), .int cmd, .int val, .int (nI fr), .int (nI to)]) rfl (fun M2 U3 => ?_)
      have hG := U3.o hX hG (by first | decide | omega)
      have hF := hF.put U3 hX (by first | decide | (simp; done) | (simp; omega) | (simp [*]; done))
      have hX := U3.s
      refine s_iconst C 34 (nI 1) dX4_passSemicolon_33 rfl (by decide) ?_
      exact s_zret C dX4_passSemicolon_34 Tr rfl (by decide) ⟨rT hz, by rw [hz]; exact ⟨sa, hX, hG, hn⟩, hF⟩
    · skip
      have hz : scB g n p = false := decide_eq_false (fun q => z18 q.2)
      refine s_iconst C 22 (nI 0) dX4_passSemicolon_21 rfl (by decide) ?_
      exact s_zret C dX4_passSemicolon_22 Tr rfl (by decide) ⟨rF hz, by rw [hz]; exact ⟨sa, hX, hG, hn⟩, hF⟩

set_option maxRecDepth 100000 in
set_option maxHeartbeats 4000000 in
theorem c_passTitle {G : mG} {M : mM} {x n p fr to : Nat} {cmd val : Int32} {g : Nat → Int32} (h : xR M x n p cmd val fr to g) (hp : p ≤ n) : CC G iX4_passTitle 0 0 [.ref x] M (fun r M1 => r = some (.int (mB (!(ptF g n 24 p true).2))) ∧ xR M1 x n (ptF g n 24 p true).1 cmd val p (ptF g n 24 p true).1 g ∧ mZ [20] M M1) := by
  refine CC.of rfl (Nat.le_of_ble_eq_true rfl) rfl (fun X C Tr => ?_)
  show V X 0 0 0 [some (.ref x), none, none, none] [] M
  obtain ⟨sa, hX, hG, hn⟩ := h
  have hF : mZ [20] M M := mZ.rf
  refine s_aload_n C 1 dX4_passTitle_0 rfl rfl ?_
  refine s_aload_n C 2 dX4_passTitle_1 rfl rfl ?_
  refine s_getf C 5 dX4_passTitle_2 rfl f_X4_19 hX rfl ?_
  refine s_putU C 8 dX4_passTitle_5 rfl p_X4_52 hX (by first | decide | omega) rfl rfl rfl (fs' := [.ref sa, .int (nI n), .int (nI p), .int cmd, .int val, .int (nI p), .int (nI to)]) rfl (fun M1 U2 => ?_)
  have hG := U2.o hX hG (by first | decide | omega)
  have hF := hF.put U2 hX (by first | decide | (simp; done) | (simp; omega) | (simp [*]; done))
  have hX := U2.s
  refine s_iconst C 9 (nI 1) dX4_passTitle_8 rfl (by decide) ?_
  refine s_istore_n C 10 dX4_passTitle_9 rfl rfl rfl ?_
  dsimp only [List.set]
  refine s_iconst C 11 (nI 1) dX4_passTitle_10 rfl (by decide) ?_
  refine s_istore_n C 12 dX4_passTitle_11 rfl rfl rfl ?_
  dsimp only [List.set]
  suffices lp12 : ∀ (fu12 : Nat) (c p9 : Nat) (nd : Bool) (M9 : mM), 25 - c < fu12 → 1 ≤ c → c ≤ 25 → p9 ≤ n → ptF g n 24 p true = ptF g n (25 - c) p9 nd → M9 x = some (20, .inl (5, [.ref sa, .int (nI n), .int (nI p9), .int cmd, .int val, .int (nI p), .int (nI to)])) → M9 sa = some (21, .inr (1, 80, .inl g)) → mZ [20] M M9 → V X 0 0 12 [some (.ref x), some (.int (mB nd)), some (.int (nI c)), none] [] M9 from lp12 26 1 p true _ (by omega) (by omega) (by omega) hp rfl hX hG hF
  intro fu12
  induction fu12 with
  | zero => intro c p9 nd M9 hc0 hc1 hc hp9 hpt hX hG hF; omega
  | succ fu12 ih12 =>
    intro c p9 nd M9 hc0 hc1 hc hp9 hpt hX hG hF
    refine s_iload_n C 13 dX4_passTitle_12 rfl rfl ?_
    refine s_bipush C 15 (nI 24) dX4_passTitle_13 rfl (by decide) ?_
    refine s_icmp_gtN C 102 18 dX4_passTitle_15 (by decide) rfl (by omega) (by omega) (fun z15 => ?_) (fun z15 => ?_)
    · skip
      have hend : ptF g n 24 p true = (p9, nd) := by
        rw [hpt]
        rw [show 25 - c = 0 by omega]; rfl
      refine s_aload_n C 103 dX4_passTitle_102 rfl rfl ?_
      refine s_aload_n C 104 dX4_passTitle_103 rfl rfl ?_
      refine s_getf C 107 dX4_passTitle_104 rfl f_X4_19 hX rfl ?_
      refine s_putU C 110 dX4_passTitle_107 rfl p_X4_59 hX (by first | decide | omega) rfl rfl rfl (fs' := [.ref sa, .int (nI n), .int (nI p9), .int cmd, .int val, .int (nI p), .int (nI p9)]) rfl (fun M3 U4 => ?_)
      have hG := U4.o hX hG (by first | decide | omega)
      have hF := hF.put U4 hX (by first | decide | (simp; done) | (simp; omega) | (simp [*]; done))
      have hX := U4.s
      refine s_iload_n C 111 dX4_passTitle_110 rfl rfl ?_
      refine s_if_neB C 118 114 dX4_passTitle_111 (by decide) rfl (fun z111 => ?_) (fun z111 => ?_)
      · skip
        refine s_iconst C 119 (nI 0) dX4_passTitle_118 rfl (by decide) ?_
        exact s_zret C dX4_passTitle_119 Tr rfl (by decide) ⟨rF (by rw [hend]; simp [z111]), by rw [hend]; exact ⟨sa, hX, hG, hn⟩, hF⟩
      · skip
        refine s_iconst C 115 (nI 1) dX4_passTitle_114 rfl (by decide) ?_
        refine s_goto C 119 dX4_passTitle_115 (by decide) ?_
        exact s_zret C dX4_passTitle_119 Tr rfl (by decide) ⟨rT (by rw [hend]; simp [z111]), by rw [hend]; exact ⟨sa, hX, hG, hn⟩, hF⟩
    · skip
      refine s_aload_n C 19 dX4_passTitle_18 rfl rfl ?_
      refine s_invV C 22 0 0 [] (mRv_of hX rfl) dX4_passTitle_19 rfl m_X4_49 (c_hasSign ⟨sa, hX, hG, hn⟩ (by omega)) rfl rfl rfl ⟨by decide, by decide⟩ (Nat.le_of_ble_eq_true rfl) (by omega) (by omega) ?_
      rintro _ M5 ⟨rfl, rfl⟩
      dsimp only [Option.toList, List.cons_append, List.nil_append]
      refine s_if_eqB C 102 25 dX4_passTitle_22 (by decide) rfl (fun z22 => ?_) (fun z22 => ?_)
      · skip
        have hend : ptF g n 24 p true = (p9, nd) := by
          rw [hpt]
          rw [show 25 - c = (24 - c) + 1 by omega, ptF]
          rw [if_neg (of_decide_eq_false z22)]
        refine s_aload_n C 103 dX4_passTitle_102 rfl rfl ?_
        refine s_aload_n C 104 dX4_passTitle_103 rfl rfl ?_
        refine s_getf C 107 dX4_passTitle_104 rfl f_X4_19 hX rfl ?_
        refine s_putU C 110 dX4_passTitle_107 rfl p_X4_59 hX (by first | decide | omega) rfl rfl rfl (fs' := [.ref sa, .int (nI n), .int (nI p9), .int cmd, .int val, .int (nI p), .int (nI p9)]) rfl (fun M6 U7 => ?_)
        have hG := U7.o hX hG (by first | decide | omega)
        have hF := hF.put U7 hX (by first | decide | (simp; done) | (simp; omega) | (simp [*]; done))
        have hX := U7.s
        refine s_iload_n C 111 dX4_passTitle_110 rfl rfl ?_
        refine s_if_neB C 118 114 dX4_passTitle_111 (by decide) rfl (fun z111 => ?_) (fun z111 => ?_)
        · skip
          refine s_iconst C 119 (nI 0) dX4_passTitle_118 rfl (by decide) ?_
          exact s_zret C dX4_passTitle_119 Tr rfl (by decide) ⟨rF (by rw [hend]; simp [z111]), by rw [hend]; exact ⟨sa, hX, hG, hn⟩, hF⟩
        · skip
          refine s_iconst C 115 (nI 1) dX4_passTitle_114 rfl (by decide) ?_
          refine s_goto C 119 dX4_passTitle_115 (by decide) ?_
          exact s_zret C dX4_passTitle_119 Tr rfl (by decide) ⟨rT (by rw [hend]; simp [z111]), by rw [hend]; exact ⟨sa, hX, hG, hn⟩, hF⟩
      · skip
        have zp : p9 < n := of_decide_eq_true z22
        refine s_aload_n C 26 dX4_passTitle_25 rfl rfl ?_
        refine s_getf C 29 dX4_passTitle_26 rfl f_X4_9 hX rfl ?_
        refine s_aload_n C 30 dX4_passTitle_29 rfl rfl ?_
        refine s_getf C 33 dX4_passTitle_30 rfl f_X4_19 hX rfl ?_
        refine s_cald C 34 dX4_passTitle_33 rfl hG (by omega) (by omega) ?_
        refine s_bipush C 36 (nI 32) dX4_passTitle_34 rfl (by decide) ?_
        refine s_icmp_ne C 43 39 dX4_passTitle_36 (by decide) rfl (fun z36 => ?_) (fun z36 => ?_)
        · skip
          refine s_iconst C 44 (nI 0) dX4_passTitle_43 rfl (by decide) ?_
          refine s_istore_n C 45 dX4_passTitle_44 rfl rfl rfl ?_
          dsimp only [List.set]
          refine s_iload_n C 46 dX4_passTitle_45 rfl rfl ?_
          refine s_if_eqN C 62 49 dX4_passTitle_46 (by decide) rfl (by omega) (fun z46 => ?_) (fun z46 => ?_)
          · skip
            refine s_iload_n C 63 dX4_passTitle_62 rfl rfl ?_
            refine s_if_neN C 84 66 dX4_passTitle_63 (by decide) rfl (by omega) (fun z63 => ?_) (fun z63 => ?_)
            · skip
              omega
            · skip
              refine s_aload_n C 67 dX4_passTitle_66 rfl rfl ?_
              refine s_getf C 70 dX4_passTitle_67 rfl f_X4_9 hX rfl ?_
              refine s_aload_n C 71 dX4_passTitle_70 rfl rfl ?_
              refine s_getf C 74 dX4_passTitle_71 rfl f_X4_19 hX rfl ?_
              refine s_cald C 75 dX4_passTitle_74 rfl hG (by omega) (by omega) ?_
              refine s_invS C 78 0 0 [] dX4_passTitle_75 rfl m_X4_55 (c_isLetter) rfl rfl rfl ⟨by decide, by decide⟩ (Nat.le_of_ble_eq_true rfl) (by omega) (by omega) ?_
              rintro _ M8 ⟨rfl, rfl⟩
              dsimp only [Option.toList, List.cons_append, List.nil_append]
              refine s_if_neB C 84 81 dX4_passTitle_78 (by decide) rfl (fun z78 => ?_) (fun z78 => ?_)
              · skip
                refine s_iload_n C 85 dX4_passTitle_84 rfl rfl ?_
                refine s_istore_n C 86 dX4_passTitle_85 rfl rfl rfl ?_
                dsimp only [List.set]
                refine s_aload_n C 87 dX4_passTitle_86 rfl rfl ?_
                refine s_dup C 88 dX4_passTitle_87 rfl rfl ?_
                refine s_getf C 91 dX4_passTitle_88 rfl f_X4_19 hX rfl ?_
                refine s_iconst C 92 (nI 1) dX4_passTitle_91 rfl (by decide) ?_
                refine s_iaddN C 93 dX4_passTitle_92 rfl ?_
                refine s_putU C 96 dX4_passTitle_93 rfl p_X4_19 hX (by first | decide | omega) rfl rfl rfl (fs' := [.ref sa, .int (nI n), .int (nI (p9 + 1)), .int cmd, .int val, .int (nI p), .int (nI to)]) rfl (fun M9 U10 => ?_)
                have hG := U10.o hX hG (by first | decide | omega)
                have hF := hF.put U10 hX (by first | decide | (simp; done) | (simp; omega) | (simp [*]; done))
                have hX := U10.s
                refine s_iinc C 99 (nI (c + 1)) dX4_passTitle_96 rfl rfl (by rw [← nI_add]; rfl) rfl ?_
                dsimp only [List.set]
                refine s_goto C 12 dX4_passTitle_99 (by decide) ?_
                refine V.drop 3 ?_
                dsimp only [List.set]
                have hstep : ptF g n (25 - c) p9 nd = ptF g n (25 - (c + 1)) (p9 + 1) false := by
                  rw [show 25 - c = (24 - c) + 1 by omega, ptF, if_pos zp, show 25 - (c + 1) = 24 - c by omega]
                  rw [if_neg z36, if_pos z78]
                exact ih12 (c + 1) (p9 + 1) false _ (by omega) (by omega) (by omega) (by omega) (hpt.trans hstep) hX hG hF
              · skip
                have hend : ptF g n 24 p true = (p9, nd) := by
                  rw [hpt]
                  rw [show 25 - c = (24 - c) + 1 by omega, ptF]
                  rw [if_pos zp, if_neg z36, if_neg (by rw [z78]; decide)]
                refine s_goto C 102 dX4_passTitle_81 (by decide) ?_
                refine s_aload_n C 103 dX4_passTitle_102 rfl rfl ?_
                refine s_aload_n C 104 dX4_passTitle_103 rfl rfl ?_
                refine s_getf C 107 dX4_passTitle_104 rfl f_X4_19 hX rfl ?_
                refine s_putU C 110 dX4_passTitle_107 rfl p_X4_59 hX (by first | decide | omega) rfl rfl rfl (fs' := [.ref sa, .int (nI n), .int (nI p9), .int cmd, .int val, .int (nI p), .int (nI p9)]) rfl (fun M11 U12 => ?_)
                have hG := U12.o hX hG (by first | decide | omega)
                have hF := hF.put U12 hX (by first | decide | (simp; done) | (simp; omega) | (simp [*]; done))
                have hX := U12.s
                refine s_iload_n C 111 dX4_passTitle_110 rfl rfl ?_
                refine s_if_neB C 118 114 dX4_passTitle_111 (by decide) rfl (fun z111 => ?_) (fun z111 => ?_)
                · skip
                  refine s_iconst C 119 (nI 0) dX4_passTitle_118 rfl (by decide) ?_
                  exact s_zret C dX4_passTitle_119 Tr rfl (by decide) ⟨rF (by rw [hend]; simp [z111]), by rw [hend]; exact ⟨sa, hX, hG, hn⟩, hF⟩
                · skip
                  refine s_iconst C 115 (nI 1) dX4_passTitle_114 rfl (by decide) ?_
                  refine s_goto C 119 dX4_passTitle_115 (by decide) ?_
                  exact s_zret C dX4_passTitle_119 Tr rfl (by decide) ⟨rT (by rw [hend]; simp [z111]), by rw [hend]; exact ⟨sa, hX, hG, hn⟩, hF⟩
          · skip
            omega
        · skip
          refine s_iconst C 40 (nI 1) dX4_passTitle_39 rfl (by decide) ?_
          refine s_goto C 44 dX4_passTitle_40 (by decide) ?_
          refine s_istore_n C 45 dX4_passTitle_44 rfl rfl rfl ?_
          dsimp only [List.set]
          refine s_iload_n C 46 dX4_passTitle_45 rfl rfl ?_
          refine s_if_eqN C 62 49 dX4_passTitle_46 (by decide) rfl (by omega) (fun z46 => ?_) (fun z46 => ?_)
          · skip
            omega
          · skip
            refine s_iload_n C 50 dX4_passTitle_49 rfl rfl ?_
            refine s_if_neB C 102 53 dX4_passTitle_50 (by decide) rfl (fun z50 => ?_) (fun z50 => ?_)
            · skip
              have hend : ptF g n 24 p true = (p9, nd) := by
                rw [hpt]
                rw [show 25 - c = (24 - c) + 1 by omega, ptF]
                rw [if_pos zp, if_pos z36, if_pos (Or.inl z50)]
              refine s_aload_n C 103 dX4_passTitle_102 rfl rfl ?_
              refine s_aload_n C 104 dX4_passTitle_103 rfl rfl ?_
              refine s_getf C 107 dX4_passTitle_104 rfl f_X4_19 hX rfl ?_
              refine s_putU C 110 dX4_passTitle_107 rfl p_X4_59 hX (by first | decide | omega) rfl rfl rfl (fs' := [.ref sa, .int (nI n), .int (nI p9), .int cmd, .int val, .int (nI p), .int (nI p9)]) rfl (fun M13 U14 => ?_)
              have hG := U14.o hX hG (by first | decide | omega)
              have hF := hF.put U14 hX (by first | decide | (simp; done) | (simp; omega) | (simp [*]; done))
              have hX := U14.s
              refine s_iload_n C 111 dX4_passTitle_110 rfl rfl ?_
              refine s_if_neB C 118 114 dX4_passTitle_111 (by decide) rfl (fun z111 => ?_) (fun z111 => ?_)
              · skip
                refine s_iconst C 119 (nI 0) dX4_passTitle_118 rfl (by decide) ?_
                exact s_zret C dX4_passTitle_119 Tr rfl (by decide) ⟨rF (by rw [hend]; simp [z111]), by rw [hend]; exact ⟨sa, hX, hG, hn⟩, hF⟩
              · skip
                refine s_iconst C 115 (nI 1) dX4_passTitle_114 rfl (by decide) ?_
                refine s_goto C 119 dX4_passTitle_115 (by decide) ?_
                exact s_zret C dX4_passTitle_119 Tr rfl (by decide) ⟨rT (by rw [hend]; simp [z111]), by rw [hend]; exact ⟨sa, hX, hG, hn⟩, hF⟩
            · skip
              refine s_iload_n C 54 dX4_passTitle_53 rfl rfl ?_
              refine s_bipush C 56 (nI 24) dX4_passTitle_54 rfl (by decide) ?_
              refine s_icmp_neN C 62 59 dX4_passTitle_56 (by decide) rfl (by omega) (by omega) (fun z56 => ?_) (fun z56 => ?_)
              · skip
                refine s_iload_n C 63 dX4_passTitle_62 rfl rfl ?_
                refine s_if_neN C 84 66 dX4_passTitle_63 (by decide) rfl (by omega) (fun z63 => ?_) (fun z63 => ?_)
                · skip
                  refine s_iload_n C 85 dX4_passTitle_84 rfl rfl ?_
                  refine s_istore_n C 86 dX4_passTitle_85 rfl rfl rfl ?_
                  dsimp only [List.set]
                  refine s_aload_n C 87 dX4_passTitle_86 rfl rfl ?_
                  refine s_dup C 88 dX4_passTitle_87 rfl rfl ?_
                  refine s_getf C 91 dX4_passTitle_88 rfl f_X4_19 hX rfl ?_
                  refine s_iconst C 92 (nI 1) dX4_passTitle_91 rfl (by decide) ?_
                  refine s_iaddN C 93 dX4_passTitle_92 rfl ?_
                  refine s_putU C 96 dX4_passTitle_93 rfl p_X4_19 hX (by first | decide | omega) rfl rfl rfl (fs' := [.ref sa, .int (nI n), .int (nI (p9 + 1)), .int cmd, .int val, .int (nI p), .int (nI to)]) rfl (fun M15 U16 => ?_)
                  have hG := U16.o hX hG (by first | decide | omega)
                  have hF := hF.put U16 hX (by first | decide | (simp; done) | (simp; omega) | (simp [*]; done))
                  have hX := U16.s
                  refine s_iinc C 99 (nI (c + 1)) dX4_passTitle_96 rfl rfl (by rw [← nI_add]; rfl) rfl ?_
                  dsimp only [List.set]
                  refine s_goto C 12 dX4_passTitle_99 (by decide) ?_
                  refine V.drop 3 ?_
                  dsimp only [List.set]
                  have hstep : ptF g n (25 - c) p9 nd = ptF g n (25 - (c + 1)) (p9 + 1) true := by
                    rw [show 25 - c = (24 - c) + 1 by omega, ptF, if_pos zp, show 25 - (c + 1) = 24 - c by omega]
                    rw [if_pos z36, if_neg (by simp [z50]; omega)]
                  exact ih12 (c + 1) (p9 + 1) true _ (by omega) (by omega) (by omega) (by omega) (hpt.trans hstep) hX hG hF
                · skip
                  omega
              · skip
                have hend : ptF g n 24 p true = (p9, nd) := by
                  rw [hpt]
                  rw [show 25 - c = (24 - c) + 1 by omega, ptF]
                  rw [if_pos zp, if_pos z36, if_pos (Or.inr (by omega))]
                refine s_goto C 102 dX4_passTitle_59 (by decide) ?_
                refine s_aload_n C 103 dX4_passTitle_102 rfl rfl ?_
                refine s_aload_n C 104 dX4_passTitle_103 rfl rfl ?_
                refine s_getf C 107 dX4_passTitle_104 rfl f_X4_19 hX rfl ?_
                refine s_putU C 110 dX4_passTitle_107 rfl p_X4_59 hX (by first | decide | omega) rfl rfl rfl (fs' := [.ref sa, .int (nI n), .int (nI p9), .int cmd, .int val, .int (nI p), .int (nI p9)]) rfl (fun M17 U18 => ?_)
                have hG := U18.o hX hG (by first | decide | omega)
                have hF := hF.put U18 hX (by first | decide | (simp; done) | (simp; omega) | (simp [*]; done))
                have hX := U18.s
                refine s_iload_n C 111 dX4_passTitle_110 rfl rfl ?_
                refine s_if_neB C 118 114 dX4_passTitle_111 (by decide) rfl (fun z111 => ?_) (fun z111 => ?_)
                · skip
                  refine s_iconst C 119 (nI 0) dX4_passTitle_118 rfl (by decide) ?_
                  exact s_zret C dX4_passTitle_119 Tr rfl (by decide) ⟨rF (by rw [hend]; simp [z111]), by rw [hend]; exact ⟨sa, hX, hG, hn⟩, hF⟩
                · skip
                  refine s_iconst C 115 (nI 1) dX4_passTitle_114 rfl (by decide) ?_
                  refine s_goto C 119 dX4_passTitle_115 (by decide) ?_
                  exact s_zret C dX4_passTitle_119 Tr rfl (by decide) ⟨rT (by rw [hend]; simp [z111]), by rw [hend]; exact ⟨sa, hX, hG, hn⟩, hF⟩

set_option maxRecDepth 100000 in
set_option maxHeartbeats 4000000 in
theorem c_passNumber {G : mG} {M : mM} {x n p fr to : Nat} {cmd val : Int32} {g : Nat → Int32} (h : xR M x n p cmd val fr to g) (hp : p ≤ n) : CC G iX4_passNumber 0 0 [.ref x] M (fun r M1 => r = some (.int (mB (decide (0 < pnN g n p)))) ∧ xR M1 x n (p + pnN g n p) cmd (nI (pnV g n p)) fr to g ∧ mZ [20] M M1) := by
  refine CC.of rfl (Nat.le_of_ble_eq_true rfl) rfl (fun X C Tr => ?_)
  show V X 0 0 0 [some (.ref x), none] [] M
  obtain ⟨sa, hX, hG, hn⟩ := h
  have hF : mZ [20] M M := mZ.rf
  refine s_aload_n C 1 dX4_passNumber_0 rfl rfl ?_
  refine s_getf C 4 dX4_passNumber_1 rfl f_X4_19 hX rfl ?_
  refine s_istore_n C 5 dX4_passNumber_4 rfl rfl rfl ?_
  dsimp only [List.set]
  refine s_aload_n C 6 dX4_passNumber_5 rfl rfl ?_
  refine s_iconst C 7 (nI 0) dX4_passNumber_6 rfl (by decide) ?_
  refine s_putU C 10 dX4_passNumber_7 rfl p_X4_62 hX (by first | decide | omega) rfl rfl rfl (fs' := [.ref sa, .int (nI n), .int (nI p), .int cmd, .int (nI 0), .int (nI fr), .int (nI to)]) rfl (fun M1 U2 => ?_)
  have hG := U2.o hX hG (by first | decide | omega)
  have hF := hF.put U2 hX (by first | decide | (simp; done) | (simp; omega) | (simp [*]; done))
  have hX := U2.s
  refine s_aload_n C 11 dX4_passNumber_10 rfl rfl ?_
  refine s_getf C 14 dX4_passNumber_11 rfl f_X4_19 hX rfl ?_
  refine s_iload_n C 15 dX4_passNumber_14 rfl rfl ?_
  refine s_iconst C 16 (nI 2) dX4_passNumber_15 rfl (by decide) ?_
  refine s_iaddN C 17 dX4_passNumber_16 rfl ?_
  refine s_icmp_geN C 79 20 dX4_passNumber_17 (by decide) rfl (by omega) (by omega) (fun z17 => ?_) (fun z17 => ?_)
  · skip
    omega
  · skip
    refine s_aload_n C 21 dX4_passNumber_20 rfl rfl ?_
    refine s_invV C 24 0 0 [] (mRv_of hX rfl) dX4_passNumber_21 rfl m_X4_49 (c_hasSign ⟨sa, hX, hG, hn⟩ (by omega)) rfl rfl rfl ⟨by decide, by decide⟩ (Nat.le_of_ble_eq_true rfl) (by omega) (by omega) ?_
    rintro _ M3 ⟨rfl, rfl⟩
    dsimp only [Option.toList, List.cons_append, List.nil_append]
    refine s_if_eqB C 79 27 dX4_passNumber_24 (by decide) rfl (fun z24 => ?_) (fun z24 => ?_)
    · skip
      have zq0 := of_decide_eq_false z24
      have hk : pnN g n p = 0 := by unfold pnN; rw [if_neg (fun q => zq0 q.1)]
      refine s_aload_n C 80 dX4_passNumber_79 rfl rfl ?_
      refine s_getf C 83 dX4_passNumber_80 rfl f_X4_19 hX rfl ?_
      refine s_iload_n C 84 dX4_passNumber_83 rfl rfl ?_
      refine s_icmp_leN C 91 87 dX4_passNumber_84 (by decide) rfl (by omega) (by omega) (fun z84 => ?_) (fun z84 => ?_)
      · skip
        have hv : pnV g n p = 0 := by unfold pnV; rw [hk]; rfl
        refine s_iconst C 92 (nI 0) dX4_passNumber_91 rfl (by decide) ?_
        exact s_zret C dX4_passNumber_92 Tr rfl (by decide) ⟨rF (by rw [hk]; decide), ⟨sa, by rw [hk, show pnV g n p = _ from hv]; exact hX, hG, hn⟩, hF⟩
      · skip
        omega
    · skip
      have zp0 : p < n := of_decide_eq_true z24
      refine s_aload_n C 28 dX4_passNumber_27 rfl rfl ?_
      refine s_getf C 31 dX4_passNumber_28 rfl f_X4_9 hX rfl ?_
      refine s_aload_n C 32 dX4_passNumber_31 rfl rfl ?_
      refine s_getf C 35 dX4_passNumber_32 rfl f_X4_19 hX rfl ?_
      refine s_cald C 36 dX4_passNumber_35 rfl hG (by omega) (by omega) ?_
      refine s_invS C 39 0 0 [] dX4_passNumber_36 rfl m_X4_65 (c_isDigit) rfl rfl rfl ⟨by decide, by decide⟩ (Nat.le_of_ble_eq_true rfl) (by omega) (by omega) ?_
      rintro _ M4 ⟨rfl, rfl⟩
      dsimp only [Option.toList, List.cons_append, List.nil_append]
      refine s_if_eqB C 79 42 dX4_passNumber_39 (by decide) rfl (fun z39 => ?_) (fun z39 => ?_)
      · skip
        have hk : pnN g n p = 0 := by unfold pnN; rw [if_neg (fun q => by rw [q.2] at z39; cases z39)]
        refine s_aload_n C 80 dX4_passNumber_79 rfl rfl ?_
        refine s_getf C 83 dX4_passNumber_80 rfl f_X4_19 hX rfl ?_
        refine s_iload_n C 84 dX4_passNumber_83 rfl rfl ?_
        refine s_icmp_leN C 91 87 dX4_passNumber_84 (by decide) rfl (by omega) (by omega) (fun z84 => ?_) (fun z84 => ?_)
        · skip
          have hv : pnV g n p = 0 := by unfold pnV; rw [hk]; rfl
          refine s_iconst C 92 (nI 0) dX4_passNumber_91 rfl (by decide) ?_
          exact s_zret C dX4_passNumber_92 Tr rfl (by decide) ⟨rF (by rw [hk]; decide), ⟨sa, by rw [hk, show pnV g n p = _ from hv]; exact hX, hG, hn⟩, hF⟩
        · skip
          omega
      · skip
        have zd0 : isD (g (p)) = true := z39
        refine s_aload_n C 43 dX4_passNumber_42 rfl rfl ?_
        refine s_bipush C 45 (nI 10) dX4_passNumber_43 rfl (by decide) ?_
        refine s_aload_n C 46 dX4_passNumber_45 rfl rfl ?_
        refine s_getf C 49 dX4_passNumber_46 rfl f_X4_62 hX rfl ?_
        refine s_imulN C 50 dX4_passNumber_49 rfl ?_
        refine s_aload_n C 51 dX4_passNumber_50 rfl rfl ?_
        refine s_getf C 54 dX4_passNumber_51 rfl f_X4_9 hX rfl ?_
        refine s_aload_n C 55 dX4_passNumber_54 rfl rfl ?_
        refine s_getf C 58 dX4_passNumber_55 rfl f_X4_19 hX rfl ?_
        refine s_cald C 59 dX4_passNumber_58 rfl hG (by omega) (by omega) ?_
        refine s_bipush C 61 (nI 48) dX4_passNumber_59 rfl (by decide) ?_
        refine s_isub C 62 dX4_passNumber_61 rfl ?_
        rw [isD_sub zd0]
        refine s_iaddN C 63 dX4_passNumber_62 rfl ?_
        refine s_putU C 66 dX4_passNumber_63 rfl p_X4_62 hX (by first | decide | omega) rfl rfl rfl (fs' := [.ref sa, .int (nI n), .int (nI p), .int cmd, .int (nI ((10 * 0) + (dg (g (p))))), .int (nI fr), .int (nI to)]) rfl (fun M5 U6 => ?_)
        have hG := U6.o hX hG (by first | decide | omega)
        have hF := hF.put U6 hX (by first | decide | (simp; done) | (simp; omega) | (simp [*]; done))
        have hX := U6.s
        refine s_aload_n C 67 dX4_passNumber_66 rfl rfl ?_
        refine s_dup C 68 dX4_passNumber_67 rfl rfl ?_
        refine s_getf C 71 dX4_passNumber_68 rfl f_X4_19 hX rfl ?_
        refine s_iconst C 72 (nI 1) dX4_passNumber_71 rfl (by decide) ?_
        refine s_iaddN C 73 dX4_passNumber_72 rfl ?_
        refine s_putU C 76 dX4_passNumber_73 rfl p_X4_19 hX (by first | decide | omega) rfl rfl rfl (fs' := [.ref sa, .int (nI n), .int (nI (p + 1)), .int cmd, .int (nI ((10 * 0) + (dg (g (p))))), .int (nI fr), .int (nI to)]) rfl (fun M7 U8 => ?_)
        have hG := U8.o hX hG (by first | decide | omega)
        have hF := hF.put U8 hX (by first | decide | (simp; done) | (simp; omega) | (simp [*]; done))
        have hX := U8.s
        refine s_goto C 10 dX4_passNumber_76 (by decide) ?_
        refine s_aload_n C 11 dX4_passNumber_10 rfl rfl ?_
        refine s_getf C 14 dX4_passNumber_11 rfl f_X4_19 hX rfl ?_
        refine s_iload_n C 15 dX4_passNumber_14 rfl rfl ?_
        refine s_iconst C 16 (nI 2) dX4_passNumber_15 rfl (by decide) ?_
        refine s_iaddN C 17 dX4_passNumber_16 rfl ?_
        refine s_icmp_geN C 79 20 dX4_passNumber_17 (by decide) rfl (by omega) (by omega) (fun z17 => ?_) (fun z17 => ?_)
        · skip
          omega
        · skip
          refine s_aload_n C 21 dX4_passNumber_20 rfl rfl ?_
          refine s_invV C 24 0 0 [] (mRv_of hX rfl) dX4_passNumber_21 rfl m_X4_49 (c_hasSign ⟨sa, hX, hG, hn⟩ (by omega)) rfl rfl rfl ⟨by decide, by decide⟩ (Nat.le_of_ble_eq_true rfl) (by omega) (by omega) ?_
          rintro _ M9 ⟨rfl, rfl⟩
          dsimp only [Option.toList, List.cons_append, List.nil_append]
          refine s_if_eqB C 79 27 dX4_passNumber_24 (by decide) rfl (fun z24 => ?_) (fun z24 => ?_)
          · skip
            have zq1 := of_decide_eq_false z24
            have hk : pnN g n p = 1 := by unfold pnN; rw [if_pos ⟨zp0, zd0⟩, if_neg (fun q => zq1 q.1)]
            refine s_aload_n C 80 dX4_passNumber_79 rfl rfl ?_
            refine s_getf C 83 dX4_passNumber_80 rfl f_X4_19 hX rfl ?_
            refine s_iload_n C 84 dX4_passNumber_83 rfl rfl ?_
            refine s_icmp_leN C 91 87 dX4_passNumber_84 (by decide) rfl (by omega) (by omega) (fun z84 => ?_) (fun z84 => ?_)
            · skip
              omega
            · skip
              have hv : pnV g n p = 10 * 0 + dg (g p) := by unfold pnV; rw [hk]; rfl
              refine s_iconst C 88 (nI 1) dX4_passNumber_87 rfl (by decide) ?_
              refine s_goto C 92 dX4_passNumber_88 (by decide) ?_
              exact s_zret C dX4_passNumber_92 Tr rfl (by decide) ⟨rT (by rw [hk]; decide), ⟨sa, by rw [hk, show pnV g n p = _ from hv]; exact hX, hG, hn⟩, hF⟩
          · skip
            have zp1 : p + 1 < n := of_decide_eq_true z24
            refine s_aload_n C 28 dX4_passNumber_27 rfl rfl ?_
            refine s_getf C 31 dX4_passNumber_28 rfl f_X4_9 hX rfl ?_
            refine s_aload_n C 32 dX4_passNumber_31 rfl rfl ?_
            refine s_getf C 35 dX4_passNumber_32 rfl f_X4_19 hX rfl ?_
            refine s_cald C 36 dX4_passNumber_35 rfl hG (by omega) (by omega) ?_
            refine s_invS C 39 0 0 [] dX4_passNumber_36 rfl m_X4_65 (c_isDigit) rfl rfl rfl ⟨by decide, by decide⟩ (Nat.le_of_ble_eq_true rfl) (by omega) (by omega) ?_
            rintro _ M10 ⟨rfl, rfl⟩
            dsimp only [Option.toList, List.cons_append, List.nil_append]
            refine s_if_eqB C 79 42 dX4_passNumber_39 (by decide) rfl (fun z39 => ?_) (fun z39 => ?_)
            · skip
              have hk : pnN g n p = 1 := by unfold pnN; rw [if_pos ⟨zp0, zd0⟩, if_neg (fun q => by rw [q.2] at z39; cases z39)]
              refine s_aload_n C 80 dX4_passNumber_79 rfl rfl ?_
              refine s_getf C 83 dX4_passNumber_80 rfl f_X4_19 hX rfl ?_
              refine s_iload_n C 84 dX4_passNumber_83 rfl rfl ?_
              refine s_icmp_leN C 91 87 dX4_passNumber_84 (by decide) rfl (by omega) (by omega) (fun z84 => ?_) (fun z84 => ?_)
              · skip
                omega
              · skip
                have hv : pnV g n p = 10 * 0 + dg (g p) := by unfold pnV; rw [hk]; rfl
                refine s_iconst C 88 (nI 1) dX4_passNumber_87 rfl (by decide) ?_
                refine s_goto C 92 dX4_passNumber_88 (by decide) ?_
                exact s_zret C dX4_passNumber_92 Tr rfl (by decide) ⟨rT (by rw [hk]; decide), ⟨sa, by rw [hk, show pnV g n p = _ from hv]; exact hX, hG, hn⟩, hF⟩
            · skip
              have zd1 : isD (g (p + 1)) = true := z39
              refine s_aload_n C 43 dX4_passNumber_42 rfl rfl ?_
              refine s_bipush C 45 (nI 10) dX4_passNumber_43 rfl (by decide) ?_
              refine s_aload_n C 46 dX4_passNumber_45 rfl rfl ?_
              refine s_getf C 49 dX4_passNumber_46 rfl f_X4_62 hX rfl ?_
              refine s_imulN C 50 dX4_passNumber_49 rfl ?_
              refine s_aload_n C 51 dX4_passNumber_50 rfl rfl ?_
              refine s_getf C 54 dX4_passNumber_51 rfl f_X4_9 hX rfl ?_
              refine s_aload_n C 55 dX4_passNumber_54 rfl rfl ?_
              refine s_getf C 58 dX4_passNumber_55 rfl f_X4_19 hX rfl ?_
              refine s_cald C 59 dX4_passNumber_58 rfl hG (by omega) (by omega) ?_
              refine s_bipush C 61 (nI 48) dX4_passNumber_59 rfl (by decide) ?_
              refine s_isub C 62 dX4_passNumber_61 rfl ?_
              rw [isD_sub zd1]
              refine s_iaddN C 63 dX4_passNumber_62 rfl ?_
              refine s_putU C 66 dX4_passNumber_63 rfl p_X4_62 hX (by first | decide | omega) rfl rfl rfl (fs' := [.ref sa, .int (nI n), .int (nI (p + 1)), .int cmd, .int (nI ((10 * ((10 * 0) + (dg (g (p))))) + (dg (g (p + 1))))), .int (nI fr), .int (nI to)]) rfl (fun M11 U12 => ?_)
              have hG := U12.o hX hG (by first | decide | omega)
              have hF := hF.put U12 hX (by first | decide | (simp; done) | (simp; omega) | (simp [*]; done))
              have hX := U12.s
              refine s_aload_n C 67 dX4_passNumber_66 rfl rfl ?_
              refine s_dup C 68 dX4_passNumber_67 rfl rfl ?_
              refine s_getf C 71 dX4_passNumber_68 rfl f_X4_19 hX rfl ?_
              refine s_iconst C 72 (nI 1) dX4_passNumber_71 rfl (by decide) ?_
              refine s_iaddN C 73 dX4_passNumber_72 rfl ?_
              refine s_putU C 76 dX4_passNumber_73 rfl p_X4_19 hX (by first | decide | omega) rfl rfl rfl (fs' := [.ref sa, .int (nI n), .int (nI ((p + 1) + 1)), .int cmd, .int (nI ((10 * ((10 * 0) + (dg (g (p))))) + (dg (g (p + 1))))), .int (nI fr), .int (nI to)]) rfl (fun M13 U14 => ?_)
              have hG := U14.o hX hG (by first | decide | omega)
              have hF := hF.put U14 hX (by first | decide | (simp; done) | (simp; omega) | (simp [*]; done))
              have hX := U14.s
              refine s_goto C 10 dX4_passNumber_76 (by decide) ?_
              refine s_aload_n C 11 dX4_passNumber_10 rfl rfl ?_
              refine s_getf C 14 dX4_passNumber_11 rfl f_X4_19 hX rfl ?_
              refine s_iload_n C 15 dX4_passNumber_14 rfl rfl ?_
              refine s_iconst C 16 (nI 2) dX4_passNumber_15 rfl (by decide) ?_
              refine s_iaddN C 17 dX4_passNumber_16 rfl ?_
              refine s_icmp_geN C 79 20 dX4_passNumber_17 (by decide) rfl (by omega) (by omega) (fun z17 => ?_) (fun z17 => ?_)
              · skip
                have hk : pnN g n p = 2 := by unfold pnN; rw [if_pos ⟨zp0, zd0⟩, if_pos ⟨zp1, zd1⟩]
                refine s_aload_n C 80 dX4_passNumber_79 rfl rfl ?_
                refine s_getf C 83 dX4_passNumber_80 rfl f_X4_19 hX rfl ?_
                refine s_iload_n C 84 dX4_passNumber_83 rfl rfl ?_
                refine s_icmp_leN C 91 87 dX4_passNumber_84 (by decide) rfl (by omega) (by omega) (fun z84 => ?_) (fun z84 => ?_)
                · skip
                  omega
                · skip
                  have hv : pnV g n p = 10 * (10 * 0 + dg (g p)) + dg (g (p + 1)) := by unfold pnV; rw [hk]; rfl
                  refine s_iconst C 88 (nI 1) dX4_passNumber_87 rfl (by decide) ?_
                  refine s_goto C 92 dX4_passNumber_88 (by decide) ?_
                  exact s_zret C dX4_passNumber_92 Tr rfl (by decide) ⟨rT (by rw [hk]; decide), ⟨sa, by rw [hk, show pnV g n p = _ from hv]; exact hX, hG, hn⟩, hF⟩
              · skip
                omega

set_option maxRecDepth 100000 in
set_option maxHeartbeats 4000000 in
theorem c_name4 {G : mG} {M : mM} {k : Nat} (hk : 7 ≤ k) (hk2 : k < 14) : CC G iX4_name 0 0 [.int (nI k)] M (fun r M1 => r = some (.ref (G.2.2.2.2.1 k)) ∧ M = M1) := by
  refine CC.of rfl (Nat.le_of_ble_eq_true rfl) rfl (fun X C Tr => ?_)
  show V X 0 0 0 [some (.int (nI k))] [] M
  refine s_iload_n C 1 dX4_name_0 rfl rfl ?_
  by_cases w1_7 : k = 7
  · skip
    refine s_tabI C 40 dX4_name_1 (off := 39) (by rw [w1_7]; decide) (by rw [w1_7]; decide) (by rw [w1_7]; rfl) (by decide) ?_
    refine s_ldcS C 42 7 dX4_name_40 rfl (by omega) rfl (by decide) ?_
    exact s_aret C dX4_name_42 Tr rfl (Or.inl ⟨_, rfl⟩) ⟨by rw [show k = 7 by omega], rfl⟩
  by_cases w1_8 : k = 8
  · skip
    refine s_tabI C 43 dX4_name_1 (off := 42) (by rw [w1_8]; decide) (by rw [w1_8]; decide) (by rw [w1_8]; rfl) (by decide) ?_
    refine s_ldcS C 45 8 dX4_name_43 rfl (by omega) rfl (by decide) ?_
    exact s_aret C dX4_name_45 Tr rfl (Or.inl ⟨_, rfl⟩) ⟨by rw [show k = 8 by omega], rfl⟩
  by_cases w1_9 : k = 9
  · skip
    refine s_tabI C 46 dX4_name_1 (off := 45) (by rw [w1_9]; decide) (by rw [w1_9]; decide) (by rw [w1_9]; rfl) (by decide) ?_
    refine s_ldcS C 48 9 dX4_name_46 rfl (by omega) rfl (by decide) ?_
    exact s_aret C dX4_name_48 Tr rfl (Or.inl ⟨_, rfl⟩) ⟨by rw [show k = 9 by omega], rfl⟩
  by_cases w1_10 : k = 10
  · skip
    refine s_tabI C 49 dX4_name_1 (off := 48) (by rw [w1_10]; decide) (by rw [w1_10]; decide) (by rw [w1_10]; rfl) (by decide) ?_
    refine s_ldcS C 51 10 dX4_name_49 rfl (by omega) rfl (by decide) ?_
    exact s_aret C dX4_name_51 Tr rfl (Or.inl ⟨_, rfl⟩) ⟨by rw [show k = 10 by omega], rfl⟩
  by_cases w1_11 : k = 11
  · skip
    refine s_tabI C 52 dX4_name_1 (off := 51) (by rw [w1_11]; decide) (by rw [w1_11]; decide) (by rw [w1_11]; rfl) (by decide) ?_
    refine s_ldcS C 54 11 dX4_name_52 rfl (by omega) rfl (by decide) ?_
    exact s_aret C dX4_name_54 Tr rfl (Or.inl ⟨_, rfl⟩) ⟨by rw [show k = 11 by omega], rfl⟩
  by_cases w1_12 : k = 12
  · skip
    refine s_tabI C 55 dX4_name_1 (off := 54) (by rw [w1_12]; decide) (by rw [w1_12]; decide) (by rw [w1_12]; rfl) (by decide) ?_
    refine s_ldcS C 57 12 dX4_name_55 rfl (by omega) rfl (by decide) ?_
    exact s_aret C dX4_name_57 Tr rfl (Or.inl ⟨_, rfl⟩) ⟨by rw [show k = 12 by omega], rfl⟩
  refine s_tabO C 58 dX4_name_1 (by rw [nI_toInt (by omega)]; omega) (by decide) ?_
  refine s_ldcS C 60 13 dX4_name_58 rfl (by omega) rfl (by decide) ?_
  exact s_aret C dX4_name_60 Tr rfl (Or.inl ⟨_, rfl⟩) ⟨by rw [show k = 13 by omega], rfl⟩

set_option maxRecDepth 100000 in
set_option maxHeartbeats 4000000 in
theorem c_word {G : mG} {M : mM} {k : Nat} (hk2 : k < 14) : CC G iX4_word 0 0 [.int (nI k)] M (fun r M1 => r = some (.ref (G.2.2.2.2.1 k)) ∧ M = M1) := by
  refine CC.of rfl (Nat.le_of_ble_eq_true rfl) rfl (fun X C Tr => ?_)
  show V X 0 0 0 [some (.int (nI k))] [] M
  refine s_iload_n C 1 dX4_word_0 rfl rfl ?_
  by_cases w1_0 : k = 0
  · skip
    refine s_tabI C 44 dX4_word_1 (off := 43) (by rw [w1_0]; decide) (by rw [w1_0]; decide) (by rw [w1_0]; rfl) (by decide) ?_
    refine s_ldcS C 46 0 dX4_word_44 rfl (by omega) rfl (by decide) ?_
    exact s_aret C dX4_word_46 Tr rfl (Or.inl ⟨_, rfl⟩) ⟨by rw [show k = 0 by omega], rfl⟩
  by_cases w1_1 : k = 1
  · skip
    refine s_tabI C 47 dX4_word_1 (off := 46) (by rw [w1_1]; decide) (by rw [w1_1]; decide) (by rw [w1_1]; rfl) (by decide) ?_
    refine s_ldcS C 49 1 dX4_word_47 rfl (by omega) rfl (by decide) ?_
    exact s_aret C dX4_word_49 Tr rfl (Or.inl ⟨_, rfl⟩) ⟨by rw [show k = 1 by omega], rfl⟩
  by_cases w1_2 : k = 2
  · skip
    refine s_tabI C 50 dX4_word_1 (off := 49) (by rw [w1_2]; decide) (by rw [w1_2]; decide) (by rw [w1_2]; rfl) (by decide) ?_
    refine s_ldcS C 52 2 dX4_word_50 rfl (by omega) rfl (by decide) ?_
    exact s_aret C dX4_word_52 Tr rfl (Or.inl ⟨_, rfl⟩) ⟨by rw [show k = 2 by omega], rfl⟩
  by_cases w1_3 : k = 3
  · skip
    refine s_tabI C 53 dX4_word_1 (off := 52) (by rw [w1_3]; decide) (by rw [w1_3]; decide) (by rw [w1_3]; rfl) (by decide) ?_
    refine s_ldcS C 55 3 dX4_word_53 rfl (by omega) rfl (by decide) ?_
    exact s_aret C dX4_word_55 Tr rfl (Or.inl ⟨_, rfl⟩) ⟨by rw [show k = 3 by omega], rfl⟩
  by_cases w1_4 : k = 4
  · skip
    refine s_tabI C 56 dX4_word_1 (off := 55) (by rw [w1_4]; decide) (by rw [w1_4]; decide) (by rw [w1_4]; rfl) (by decide) ?_
    refine s_ldcS C 58 4 dX4_word_56 rfl (by omega) rfl (by decide) ?_
    exact s_aret C dX4_word_58 Tr rfl (Or.inl ⟨_, rfl⟩) ⟨by rw [show k = 4 by omega], rfl⟩
  by_cases w1_5 : k = 5
  · skip
    refine s_tabI C 59 dX4_word_1 (off := 58) (by rw [w1_5]; decide) (by rw [w1_5]; decide) (by rw [w1_5]; rfl) (by decide) ?_
    refine s_ldcS C 61 5 dX4_word_59 rfl (by omega) rfl (by decide) ?_
    exact s_aret C dX4_word_61 Tr rfl (Or.inl ⟨_, rfl⟩) ⟨by rw [show k = 5 by omega], rfl⟩
  by_cases w1_6 : k = 6
  · skip
    refine s_tabI C 62 dX4_word_1 (off := 61) (by rw [w1_6]; decide) (by rw [w1_6]; decide) (by rw [w1_6]; rfl) (by decide) ?_
    refine s_ldcS C 64 6 dX4_word_62 rfl (by omega) rfl (by decide) ?_
    exact s_aret C dX4_word_64 Tr rfl (Or.inl ⟨_, rfl⟩) ⟨by rw [show k = 6 by omega], rfl⟩
  refine s_tabO C 65 dX4_word_1 (by rw [nI_toInt (by omega)]; omega) (by decide) ?_
  refine s_iload_n C 66 dX4_word_65 rfl rfl ?_
  refine s_invS C 69 0 0 [] dX4_word_66 rfl m_X4_104 (c_name4 (k := k) (by omega) hk2) rfl rfl rfl ⟨by decide, by decide⟩ (Nat.le_of_ble_eq_true rfl) (by omega) (by omega) ?_
  rintro _ M1 ⟨rfl, rfl⟩
  dsimp only [Option.toList, List.cons_append, List.nil_append]
  exact s_aret C dX4_word_69 Tr rfl (Or.inl ⟨_, rfl⟩) ⟨rfl, rfl⟩

set_option maxRecDepth 100000 in
set_option maxHeartbeats 4000000 in
theorem c_same4 {G : mG} {M : mM} {x n p fr to : Nat} {cmd val : Int32} {g : Nat → Int32} (h : xR M x n p cmd val fr to g) {i : Nat} (hp : p ≤ n) (hi : i < 14) : CC G iX4_sameLength 0 0 [.ref x, .ref (G.2.2.2.2.1 i)] M (fun r M1 => r = some (.int (nI (mW0 g n p i))) ∧ M = M1) := by
  refine CC.of rfl (Nat.le_of_ble_eq_true rfl) rfl (fun X C Tr => ?_)
  show V X 0 0 0 [some (.ref x), some (.ref (G.2.2.2.2.1 i)), none] [] M
  obtain ⟨sa, hX, hG, hn⟩ := h
  have hw20 := (wd_all i hi).2.1
  refine s_iconst C 1 (nI 0) dX4_sameLength_0 rfl (by decide) ?_
  refine s_istore_n C 2 dX4_sameLength_1 rfl rfl rfl ?_
  dsimp only [List.set]
  suffices lp2 : ∀ (fu2 : Nat) (s : Nat), wdL i - s < fu2 → s ≤ wdL i → p + s ≤ n → mW0 g n p i = mw g n p i s (wdL i - s) → V X 0 0 2 [some (.ref x), some (.ref (G.2.2.2.2.1 i)), some (.int (nI s))] [] M from lp2 (wdL i + 1) 0 (by omega) (by omega) (by omega) rfl
  intro fu2
  induction fu2 with
  | zero => intro s hs0 hs1 hs2 hs; omega
  | succ fu2 ih2 =>
    intro s hs0 hs1 hs2 hs
    refine s_iload_n C 3 dX4_sameLength_2 rfl rfl ?_
    refine s_aload_n C 4 dX4_sameLength_3 rfl rfl ?_
    refine s_invV C 7 0 0 [.int (nI s)] (mRv_str hi) dX4_sameLength_4 rfl m_X4_76 (c_strLen hi) rfl rfl rfl ⟨by decide, by decide⟩ (Nat.le_of_ble_eq_true rfl) (by omega) (by omega) ?_
    rintro _ M1 ⟨rfl, rfl⟩
    dsimp only [Option.toList, List.cons_append, List.nil_append]
    refine s_icmp_geN C 62 10 dX4_sameLength_7 (by decide) rfl (by omega) (by omega) (fun z7 => ?_) (fun z7 => ?_)
    · skip
      have hz : mW0 g n p i = s := by rw [hs]; rw [show wdL i - s = 0 by omega]; rfl
      refine s_iload_n C 63 dX4_sameLength_62 rfl rfl ?_
      exact s_iret C dX4_sameLength_63 Tr rfl ⟨by rw [hz], rfl⟩
    · skip
      refine s_aload_n C 11 dX4_sameLength_10 rfl rfl ?_
      refine s_getf C 14 dX4_sameLength_11 rfl f_X4_19 hX rfl ?_
      refine s_iload_n C 15 dX4_sameLength_14 rfl rfl ?_
      refine s_iaddN C 16 dX4_sameLength_15 rfl ?_
      refine s_aload_n C 17 dX4_sameLength_16 rfl rfl ?_
      refine s_getf C 20 dX4_sameLength_17 rfl f_X4_15 hX rfl ?_
      refine s_icmp_geN C 62 23 dX4_sameLength_20 (by decide) rfl (by omega) (by omega) (fun z20 => ?_) (fun z20 => ?_)
      · skip
        have hz : mW0 g n p i = s := by rw [hs]; rw [show wdL i - s = (wdL i - (s + 1)) + 1 by omega, mw, if_neg (by omega)]
        refine s_iload_n C 63 dX4_sameLength_62 rfl rfl ?_
        exact s_iret C dX4_sameLength_63 Tr rfl ⟨by rw [hz], rfl⟩
      · skip
        refine s_aload_n C 24 dX4_sameLength_23 rfl rfl ?_
        refine s_getf C 27 dX4_sameLength_24 rfl f_X4_19 hX rfl ?_
        refine s_iload_n C 28 dX4_sameLength_27 rfl rfl ?_
        refine s_iaddN C 29 dX4_sameLength_28 rfl ?_
        refine s_aload_n C 30 dX4_sameLength_29 rfl rfl ?_
        refine s_getf C 33 dX4_sameLength_30 rfl f_X4_9 hX rfl ?_
        refine s_alen C 34 dX4_sameLength_33 rfl hG (by decide) ?_
        refine s_icmp_geN C 62 37 dX4_sameLength_34 (by decide) rfl (by omega) (by omega) (fun z34 => ?_) (fun z34 => ?_)
        · skip
          omega
        · skip
          refine s_aload_n C 38 dX4_sameLength_37 rfl rfl ?_
          refine s_getf C 41 dX4_sameLength_38 rfl f_X4_9 hX rfl ?_
          refine s_aload_n C 42 dX4_sameLength_41 rfl rfl ?_
          refine s_getf C 45 dX4_sameLength_42 rfl f_X4_19 hX rfl ?_
          refine s_iload_n C 46 dX4_sameLength_45 rfl rfl ?_
          refine s_iaddN C 47 dX4_sameLength_46 rfl ?_
          refine s_cald C 48 dX4_sameLength_47 rfl hG (by omega) (by omega) ?_
          refine s_aload_n C 49 dX4_sameLength_48 rfl rfl ?_
          refine s_iload_n C 50 dX4_sameLength_49 rfl rfl ?_
          refine s_invV C 53 0 0 [.int (g (p + s))] (mRv_str hi) dX4_sameLength_50 rfl m_X4_86 (c_charAt hi (j := s) (by omega)) rfl rfl rfl ⟨by decide, by decide⟩ (Nat.le_of_ble_eq_true rfl) (by omega) (by omega) ?_
          rintro _ M2 ⟨rfl, rfl⟩
          dsimp only [Option.toList, List.cons_append, List.nil_append]
          refine s_icmp_ne C 62 56 dX4_sameLength_53 (by decide) rfl (fun z53 => ?_) (fun z53 => ?_)
          · skip
            have hz : mW0 g n p i = s := by rw [hs]; rw [show wdL i - s = (wdL i - (s + 1)) + 1 by omega, mw, if_neg (fun q => z53 q.2)]
            refine s_iload_n C 63 dX4_sameLength_62 rfl rfl ?_
            exact s_iret C dX4_sameLength_63 Tr rfl ⟨by rw [hz], rfl⟩
          · skip
            refine s_iinc C 59 (nI (s + 1)) dX4_sameLength_56 rfl rfl (by rw [← nI_add]; rfl) rfl ?_
            dsimp only [List.set]
            refine s_goto C 2 dX4_sameLength_59 (by decide) ?_
            exact ih2 (s + 1) (by omega) (by omega) (by omega) (by rw [hs, show wdL i - s = (wdL i - (s + 1)) + 1 by omega, mw, if_pos ⟨by omega, z53⟩])

set_option maxRecDepth 100000 in
set_option maxHeartbeats 4000000 in
theorem c_oneOf {G : mG} {M : mM} {x n p fr to : Nat} {cmd val : Int32} {g : Nat → Int32} (h : xR M x n p cmd val fr to g) {a b : Nat} (hp : p ≤ n) (ha : a ≤ b) (hb : b < 14) : CC G iX4_passOneOf 0 0 [.ref x, .int (nI a), .int (nI b)] M (fun r M1 => r = some (.int (oI (po g n p a (b + 1 - a) 0).1)) ∧ xR M1 x n (po g n p a (b + 1 - a) 0).2 cmd val fr to g ∧ mZ [20] M M1) := by
  refine CC.of rfl (Nat.le_of_ble_eq_true rfl) rfl (fun X C Tr => ?_)
  show V X 0 0 0 [some (.ref x), some (.int (nI a)), some (.int (nI b)), none, none, none, none] [] M
  obtain ⟨sa, hX, hG, hn⟩ := h
  have hF : mZ [20] M M := mZ.rf
  refine s_iconst C 1 (nI 0) dX4_passOneOf_0 rfl (by decide) ?_
  refine s_istore_n C 2 dX4_passOneOf_1 rfl rfl rfl ?_
  dsimp only [List.set]
  refine s_iload_n C 3 dX4_passOneOf_2 rfl rfl ?_
  refine s_istore C 5 dX4_passOneOf_3 rfl rfl rfl ?_
  dsimp only [List.set]
  suffices lp5 : ∀ (fu5 : Nat) (k mo : Nat), b + 1 - k < fu5 → k ≤ b + 1 → a ≤ k → p + mo ≤ n → po g n p a (b + 1 - a) 0 = po g n p k (b + 1 - k) mo → V X 0 0 5 [some (.ref x), some (.int (nI a)), some (.int (nI b)), some (.int (nI mo)), some (.int (nI k)), none, none] [] M from lp5 (b + 2) a 0 (by omega) (by omega) (by omega) (by omega) rfl
  intro fu5
  induction fu5 with
  | zero => intro k mo hk0 hk1 hk2 hmo hpo; omega
  | succ fu5 ih5 =>
    intro k mo hk0 hk1 hk2 hmo hpo
    refine s_iload C 7 dX4_passOneOf_5 rfl rfl ?_
    refine s_iload_n C 8 dX4_passOneOf_7 rfl rfl ?_
    refine s_icmp_gtN C 63 11 dX4_passOneOf_8 (by decide) rfl (by omega) (by omega) (fun z8 => ?_) (fun z8 => ?_)
    · skip
      have hz : po g n p a (b + 1 - a) 0 = (none, p + mo) := by rw [hpo, show b + 1 - k = 0 by omega]; rfl
      refine s_aload_n C 64 dX4_passOneOf_63 rfl rfl ?_
      refine s_dup C 65 dX4_passOneOf_64 rfl rfl ?_
      refine s_getf C 68 dX4_passOneOf_65 rfl f_X4_19 hX rfl ?_
      refine s_iload_n C 69 dX4_passOneOf_68 rfl rfl ?_
      refine s_iaddN C 70 dX4_passOneOf_69 rfl ?_
      refine s_putU C 73 dX4_passOneOf_70 rfl p_X4_19 hX (by first | decide | omega) rfl rfl rfl (fs' := [.ref sa, .int (nI n), .int (nI (p + mo)), .int cmd, .int val, .int (nI fr), .int (nI to)]) rfl (fun M1 U2 => ?_)
      have hG := U2.o hX hG (by first | decide | omega)
      have hF := hF.put U2 hX (by first | decide | (simp; done) | (simp; omega) | (simp [*]; done))
      have hX := U2.s
      refine s_bipush C 75 (-6) dX4_passOneOf_73 rfl (by decide) ?_
      exact s_iret C dX4_passOneOf_75 Tr rfl ⟨by rw [hz]; rfl, by rw [hz]; exact ⟨sa, hX, hG, hn⟩, hF⟩
    · skip
      refine s_iload C 13 dX4_passOneOf_11 rfl rfl ?_
      refine s_invS C 16 0 0 [] dX4_passOneOf_13 rfl m_X4_68 (c_word (by omega)) rfl rfl rfl ⟨by decide, by decide⟩ (Nat.le_of_ble_eq_true rfl) (by omega) (by omega) ?_
      rintro _ M3 ⟨rfl, rfl⟩
      dsimp only [Option.toList, List.cons_append, List.nil_append]
      refine s_astore C 18 dX4_passOneOf_16 rfl rfl rfl ?_
      dsimp only [List.set]
      refine s_aload_n C 19 dX4_passOneOf_18 rfl rfl ?_
      refine s_aload C 21 dX4_passOneOf_19 rfl rfl ?_
      refine s_invV C 24 0 0 [] (mRv_of hX rfl) dX4_passOneOf_21 rfl m_X4_72 (c_same4 ⟨sa, hX, hG, hn⟩ hp (by omega)) rfl rfl rfl ⟨by decide, by decide⟩ (Nat.le_of_ble_eq_true rfl) (by omega) (by omega) ?_
      rintro _ M4 ⟨rfl, rfl⟩
      dsimp only [Option.toList, List.cons_append, List.nil_append]
      have hmw := mw_le (g := g) (n := n) (p := p) (i := k) (wdL k) 0 (by omega)
      have hmw2 : p + mW0 g n p k ≤ n ∧ mW0 g n p k ≤ wdL k := by unfold mW0; omega
      have hw20 := (wd_all k (by omega)).2.1
      refine s_istore C 26 dX4_passOneOf_24 rfl rfl rfl ?_
      dsimp only [List.set]
      refine s_iload C 28 dX4_passOneOf_26 rfl rfl ?_
      refine s_aload C 30 dX4_passOneOf_28 rfl rfl ?_
      refine s_invV C 33 0 0 [.int (nI (mW0 g n p k))] (mRv_str (by omega)) dX4_passOneOf_30 rfl m_X4_76 (c_strLen (by omega)) rfl rfl rfl ⟨by decide, by decide⟩ (Nat.le_of_ble_eq_true rfl) (by omega) (by omega) ?_
      rintro _ M5 ⟨rfl, rfl⟩
      dsimp only [Option.toList, List.cons_append, List.nil_append]
      refine s_icmp_neN C 50 36 dX4_passOneOf_33 (by decide) rfl (by omega) (by omega) (fun z33 => ?_) (fun z33 => ?_)
      · skip
        refine s_iload_n C 51 dX4_passOneOf_50 rfl rfl ?_
        refine s_iload C 53 dX4_passOneOf_51 rfl rfl ?_
        refine s_maxN C 56 dX4_passOneOf_53 rfl mm_X4_81 rfl (by decide) (Nat.le_of_ble_eq_true rfl) (by omega) (by omega) ?_
        refine s_istore_n C 57 dX4_passOneOf_56 rfl rfl rfl ?_
        dsimp only [List.set]
        refine s_iinc C 60 (nI (k + 1)) dX4_passOneOf_57 rfl rfl (by rw [← nI_add]; rfl) rfl ?_
        dsimp only [List.set]
        refine s_goto C 5 dX4_passOneOf_60 (by decide) ?_
        refine V.drop 5 ?_
        dsimp only [List.set]
        refine V.drop 6 ?_
        dsimp only [List.set]
        exact ih5 (k + 1) _ (by omega) (by omega) (by omega) (by omega) (by rw [hpo, show b + 1 - k = (b + 1 - (k + 1)) + 1 by omega, po, if_neg z33])
      · skip
        have hz : po g n p a (b + 1 - a) 0 = (some k, p + wdL k) := by rw [hpo, show b + 1 - k = (b + 1 - (k + 1)) + 1 by omega, po, if_pos z33]
        refine s_aload_n C 37 dX4_passOneOf_36 rfl rfl ?_
        refine s_dup C 38 dX4_passOneOf_37 rfl rfl ?_
        refine s_getf C 41 dX4_passOneOf_38 rfl f_X4_19 hX rfl ?_
        refine s_iload C 43 dX4_passOneOf_41 rfl rfl ?_
        refine s_iaddN C 44 dX4_passOneOf_43 rfl ?_
        refine s_putU C 47 dX4_passOneOf_44 rfl p_X4_19 hX (by first | decide | omega) rfl rfl rfl (fs' := [.ref sa, .int (nI n), .int (nI (p + (mW0 g n p k))), .int cmd, .int val, .int (nI fr), .int (nI to)]) rfl (fun M6 U7 => ?_)
        have hG := U7.o hX hG (by first | decide | omega)
        have hF := hF.put U7 hX (by first | decide | (simp; done) | (simp; omega) | (simp [*]; done))
        have hX := U7.s
        refine s_iload C 49 dX4_passOneOf_47 rfl rfl ?_
        exact s_iret C dX4_passOneOf_49 Tr rfl ⟨by rw [hz]; rfl, by rw [hz]; exact ⟨sa, by rw [← z33]; exact hX, hG, hn⟩, hF⟩

set_option maxRecDepth 100000 in
set_option maxHeartbeats 4000000 in
theorem c_passName {G : mG} {M : mM} {x n p fr to : Nat} {cmd val : Int32} {g : Nat → Int32} (h : xR M x n p cmd val fr to g) {a b : Nat} (hp : p ≤ n) (ha : a ≤ b) (hb : b < 14) : CC G iX4_passName 0 0 [.ref x, .int (nI a), .int (nI b)] M (fun r M1 => r = some (.int (mB (po g n p a (b + 1 - a) 0).1.isSome)) ∧ xR M1 x n (po g n p a (b + 1 - a) 0).2 cmd (oI (po g n p a (b + 1 - a) 0).1 - nI a) fr to g ∧ mZ [20] M M1) := by
  refine CC.of rfl (Nat.le_of_ble_eq_true rfl) rfl (fun X C Tr => ?_)
  show V X 0 0 0 [some (.ref x), some (.int (nI a)), some (.int (nI b)), none] [] M
  obtain ⟨sa, hX, hG, hn⟩ := h
  have hF : mZ [20] M M := mZ.rf
  refine s_aload_n C 1 dX4_passName_0 rfl rfl ?_
  refine s_iload_n C 2 dX4_passName_1 rfl rfl ?_
  refine s_iload_n C 3 dX4_passName_2 rfl rfl ?_
  refine s_invV C 6 0 0 [] (mRv_of hX rfl) dX4_passName_3 rfl m_X4_35 (c_oneOf ⟨sa, hX, hG, hn⟩ hp ha hb) rfl rfl rfl ⟨by decide, by decide⟩ (Nat.le_of_ble_eq_true rfl) (by omega) (by omega) ?_
  rintro _ M1 ⟨rfl, hx9, hFx⟩
  dsimp only [Option.toList, List.cons_append, List.nil_append]
  obtain ⟨sa9, hX, hG, -⟩ := hx9
  have hF := hF.tr hFx
  refine s_istore_n C 7 dX4_passName_6 rfl rfl rfl ?_
  dsimp only [List.set]
  refine s_aload_n C 8 dX4_passName_7 rfl rfl ?_
  refine s_iload_n C 9 dX4_passName_8 rfl rfl ?_
  refine s_iload_n C 10 dX4_passName_9 rfl rfl ?_
  refine s_isub C 11 dX4_passName_10 rfl ?_
  refine s_putU C 14 dX4_passName_11 rfl p_X4_62 hX (by first | decide | omega) rfl rfl rfl (fs' := [.ref sa9, .int (nI n), .int (nI ((po g n p a (b + 1 - a) 0).2)), .int cmd, .int ((oI (po g n p a (b + 1 - a) 0).1) - (nI a)), .int (nI fr), .int (nI to)]) rfl (fun M2 U3 => ?_)
  have hG := U3.o hX hG (by first | decide | omega)
  have hF := hF.put U3 hX (by first | decide | (simp; done) | (simp; omega) | (simp [*]; done))
  have hX := U3.s
  refine s_iload_n C 15 dX4_passName_14 rfl rfl ?_
  refine s_bipush C 17 (-6) dX4_passName_15 rfl (by decide) ?_
  refine s_icmp_eq C 24 20 dX4_passName_17 (by decide) rfl (fun z17 => ?_) (fun z17 => ?_)
  · skip
    have hz : (po g n p a (b + 1 - a) 0).1.isSome = false := by rw [(oI_n (fun j hj => by have := (po_le (g := g) (n := n) (p := p) (b + 1 - a) a 0 (by omega)).2.2.2 j hj; omega)).mp z17]; rfl
    refine s_iconst C 25 (nI 0) dX4_passName_24 rfl (by decide) ?_
    exact s_zret C dX4_passName_25 Tr rfl (by decide) ⟨rF hz, ⟨sa9, hX, hG, hn⟩, hF⟩
  · skip
    have hz : (po g n p a (b + 1 - a) 0).1.isSome = true := by
      cases hh : (po g n p a (b + 1 - a) 0).1 with
      | none => rw [hh] at z17; exact absurd rfl z17
      | some j => rfl
    refine s_iconst C 21 (nI 1) dX4_passName_20 rfl (by decide) ?_
    refine s_goto C 25 dX4_passName_21 (by decide) ?_
    exact s_zret C dX4_passName_25 Tr rfl (by decide) ⟨rT hz, ⟨sa9, hX, hG, hn⟩, hF⟩

theorem c_oneOf07 {G : mG} {M : mM} {x n p fr to : Nat} {cmd val : Int32} {g : Nat → Int32} (h : xR M x n p cmd val fr to g) (hp : p ≤ n) : CC G iX4_passOneOf 0 0 [.ref x, .int (nI 0), .int (nI 6)] M (fun r M1 => r = some (.int (oI (cmK g n p))) ∧ xR M1 x n (cmP g n p) cmd val fr to g ∧ mZ [20] M M1) := c_oneOf (a := 0) (b := 6) h hp (by omega) (by omega)
theorem c_name74 {G : mG} {M : mM} {x n p fr to : Nat} {cmd val : Int32} {g : Nat → Int32} (h : xR M x n p cmd val fr to g) (hp : p ≤ n) : CC G iX4_passName 0 0 [.ref x, .int (nI 7), .int (nI 10)] M (fun r M1 => r = some (.int (mB (po g n p 7 4 0).1.isSome)) ∧ xR M1 x n (po g n p 7 4 0).2 cmd (oI (po g n p 7 4 0).1 - nI 7) fr to g ∧ mZ [20] M M1) := c_passName (a := 7) (b := 10) h hp (by omega) (by omega)
theorem c_name113 {G : mG} {M : mM} {x n p fr to : Nat} {cmd val : Int32} {g : Nat → Int32} (h : xR M x n p cmd val fr to g) (hp : p ≤ n) : CC G iX4_passName 0 0 [.ref x, .int (nI 11), .int (nI 13)] M (fun r M1 => r = some (.int (mB (po g n p 11 3 0).1.isSome)) ∧ xR M1 x n (po g n p 11 3 0).2 cmd (oI (po g n p 11 3 0).1 - nI 11) fr to g ∧ mZ [20] M M1) := c_passName (a := 11) (b := 13) h hp (by omega) (by omega)
/-- what a whole command leaves behind -/
def cvP (g : Nat → Int32) (n p : Nat) (val : Int32) (fr to : Nat) : Prop := match cmK g n p with
  | some 0 => fr = cmP g n p ∧ to = cmA g n p
  | some 4 => fr = cmP g n p ∧ to = cmA g n p
  | some 6 => True
  | none => True
  | some _ => val = nI (cmV g n p)
theorem cmP_le {g : Nat → Int32} {n p : Nat} (hp : p ≤ n) : p ≤ cmP g n p ∧ cmP g n p ≤ n ∧ ∀ j, cmK g n p = some j → j < 7 := by
  have h := po_le (g := g) (n := n) (p := p) 7 0 0 (by omega)
  exact ⟨h.2.1, h.2.2.1, fun j hj => by have := h.2.2.2 j hj; omega⟩
theorem cmA_le {g : Nat → Int32} {n p : Nat} (hp : p ≤ n) : cmP g n p ≤ cmA g n p ∧ cmA g n p ≤ n := by
  obtain ⟨h1, h2, h3⟩ := cmP_le (g := g) hp
  unfold cmA
  have a := ptF_le (g := g) (n := n) 24 (cmP g n p) true h2
  have b := pnN_le (g := g) h2
  have c := po_le (g := g) (n := n) (p := cmP g n p) 4 7 0 (by omega)
  have d := po_le (g := g) (n := n) (p := cmP g n p) 3 11 0 (by omega)
  split <;> omega
theorem oI_sub {o : Option Nat} {a : Nat} (h : o.isSome = true) (hj : ∀ j, o = some j → a ≤ j) : oI o - nI a = nI (o.getD a - a) := by
  cases o with
  | none => cases h
  | some j => exact pk_sub (hj j rfl)
set_option maxRecDepth 100000 in
set_option maxHeartbeats 4000000 in
theorem c_passCommand {G : mG} {M : mM} {x n p fr to : Nat} {cmd val : Int32} {g : Nat → Int32} (h : xR M x n p cmd val fr to g) (hp : p ≤ n) : CC G iX4_passCommand 0 0 [.ref x] M (fun r M1 => r = some (.int (mB (cmO g n p))) ∧ (∃ val2 fr2 to2, xR M1 x n (cmA g n p) (oI (cmK g n p)) val2 fr2 to2 g ∧ (cmO g n p = true → cvP g n p val2 fr2 to2)) ∧ mZ [20] M M1) := by
  refine CC.of rfl (Nat.le_of_ble_eq_true rfl) rfl (fun X C Tr => ?_)
  show V X 0 0 0 [some (.ref x)] [] M
  obtain ⟨sa, hX, hG, hn⟩ := h
  have hF : mZ [20] M M := mZ.rf
  have hcp := cmP_le (g := g) hp
  have hjk := hcp.2.2
  refine s_aload_n C 1 dX4_passCommand_0 rfl rfl ?_
  refine s_aload_n C 2 dX4_passCommand_1 rfl rfl ?_
  refine s_iconst C 3 (nI 0) dX4_passCommand_2 rfl (by decide) ?_
  refine s_bipush C 5 (nI 6) dX4_passCommand_3 rfl (by decide) ?_
  refine s_invV C 8 0 0 [.ref x] (mRv_of hX rfl) dX4_passCommand_5 rfl m_X4_35 (c_oneOf07 ⟨sa, hX, hG, hn⟩ hp) rfl rfl rfl ⟨by decide, by decide⟩ (Nat.le_of_ble_eq_true rfl) (by omega) (by omega) ?_
  rintro _ M1 ⟨rfl, hx9, hFx⟩
  dsimp only [Option.toList, List.cons_append, List.nil_append]
  obtain ⟨sa9, hX, hG, -⟩ := hx9
  have hF := hF.tr hFx
  refine s_putU C 11 dX4_passCommand_8 rfl p_X4_39 hX (by first | decide | omega) rfl rfl rfl (fs' := [.ref sa9, .int (nI n), .int (nI (cmP g n p)), .int (oI (cmK g n p)), .int val, .int (nI fr), .int (nI to)]) rfl (fun M2 U3 => ?_)
  have hG := U3.o hX hG (by first | decide | omega)
  have hF := hF.put U3 hX (by first | decide | (simp; done) | (simp; omega) | (simp [*]; done))
  have hX := U3.s
  refine s_aload_n C 12 dX4_passCommand_11 rfl rfl ?_
  refine s_getf C 15 dX4_passCommand_12 rfl f_X4_39 hX rfl ?_
  cases hK : cmK g n p with
  | none =>
    refine s_tabO C 86 dX4_passCommand_15 (Or.inl (by decide)) (by decide) ?_
    refine s_iconst C 87 (nI 0) dX4_passCommand_86 rfl (by decide) ?_
    exact s_zret C dX4_passCommand_87 Tr rfl (by decide) ⟨rF (by unfold cmO; rw [hK] <;> rfl), ⟨_, _, _, ⟨sa9, by unfold cmA; rw [hK]; rw [hK] at hX; exact hX, hG, hn⟩, fun hok => by unfold cvP; rw [hK]; exact trivial⟩, hF⟩
  | some j =>
    have hj := hjk j hK
    by_cases w0 : j = 0
    · subst w0
      refine s_tabI C 56 dX4_passCommand_15 (off := 41) (by decide) (by decide) rfl (by decide) ?_
      refine s_aload_n C 57 dX4_passCommand_56 rfl rfl ?_
      refine s_invV C 60 0 0 [] (mRv_of hX rfl) dX4_passCommand_57 rfl m_X4_32 (c_passTitle ⟨sa9, hX, hG, hn⟩ hcp.2.1) rfl rfl rfl ⟨by decide, by decide⟩ (Nat.le_of_ble_eq_true rfl) (by omega) (by omega) ?_
      rintro _ M4 ⟨rfl, hx9, hFx⟩
      dsimp only [Option.toList, List.cons_append, List.nil_append]
      obtain ⟨sa9, hX, hG, -⟩ := hx9
      have hF := hF.tr hFx
      exact s_zret C dX4_passCommand_60 Tr rfl (mB_z _) ⟨by unfold cmO; rw [hK] <;> rfl, ⟨_, _, _, ⟨sa9, by unfold cmA; rw [hK]; rw [hK] at hX; exact hX, hG, hn⟩, fun hok => by unfold cvP; rw [hK]; exact ⟨rfl, by unfold cmA; rw [hK] <;> rfl⟩⟩, hF⟩
    by_cases w1 : j = 1
    · subst w1
      refine s_tabI C 61 dX4_passCommand_15 (off := 46) (by decide) (by decide) rfl (by decide) ?_
      refine s_aload_n C 62 dX4_passCommand_61 rfl rfl ?_
      refine s_invV C 65 0 0 [] (mRv_of hX rfl) dX4_passCommand_62 rfl m_X4_42 (c_passNumber ⟨sa9, hX, hG, hn⟩ hcp.2.1) rfl rfl rfl ⟨by decide, by decide⟩ (Nat.le_of_ble_eq_true rfl) (by omega) (by omega) ?_
      rintro _ M5 ⟨rfl, hx9, hFx⟩
      dsimp only [Option.toList, List.cons_append, List.nil_append]
      obtain ⟨sa9, hX, hG, -⟩ := hx9
      have hF := hF.tr hFx
      exact s_zret C dX4_passCommand_65 Tr rfl (mB_z _) ⟨by unfold cmO; rw [hK] <;> rfl, ⟨_, _, _, ⟨sa9, by unfold cmA; rw [hK]; rw [hK] at hX; exact hX, hG, hn⟩, fun hok => by unfold cvP; rw [hK]; exact (by unfold cmV; rw [hK] <;> rfl)⟩, hF⟩
    by_cases w2 : j = 2
    · subst w2
      refine s_tabI C 66 dX4_passCommand_15 (off := 51) (by decide) (by decide) rfl (by decide) ?_
      refine s_aload_n C 67 dX4_passCommand_66 rfl rfl ?_
      refine s_bipush C 69 (nI 7) dX4_passCommand_67 rfl (by decide) ?_
      refine s_bipush C 71 (nI 10) dX4_passCommand_69 rfl (by decide) ?_
      refine s_invV C 74 0 0 [] (mRv_of hX rfl) dX4_passCommand_71 rfl m_X4_45 (c_name74 ⟨sa9, hX, hG, hn⟩ hcp.2.1) rfl rfl rfl ⟨by decide, by decide⟩ (Nat.le_of_ble_eq_true rfl) (by omega) (by omega) ?_
      rintro _ M6 ⟨rfl, hx9, hFx⟩
      dsimp only [Option.toList, List.cons_append, List.nil_append]
      obtain ⟨sa9, hX, hG, -⟩ := hx9
      have hF := hF.tr hFx
      exact s_zret C dX4_passCommand_74 Tr rfl (mB_z _) ⟨by unfold cmO; rw [hK] <;> rfl, ⟨_, _, _, ⟨sa9, by unfold cmA; rw [hK]; rw [hK] at hX; exact hX, hG, hn⟩, fun hok => by unfold cvP; rw [hK]; exact (by unfold cmV; rw [hK]; exact oI_sub (by unfold cmO at hok; rw [hK] at hok; exact hok) (fun j hj => ((po_le (g := g) (n := n) (p := cmP g n p) 4 7 0 (by omega)).2.2.2 j hj).1))⟩, hF⟩
    by_cases w3 : j = 3
    · subst w3
      refine s_tabI C 75 dX4_passCommand_15 (off := 60) (by decide) (by decide) rfl (by decide) ?_
      refine s_aload_n C 76 dX4_passCommand_75 rfl rfl ?_
      refine s_bipush C 78 (nI 11) dX4_passCommand_76 rfl (by decide) ?_
      refine s_bipush C 80 (nI 13) dX4_passCommand_78 rfl (by decide) ?_
      refine s_invV C 83 0 0 [] (mRv_of hX rfl) dX4_passCommand_80 rfl m_X4_45 (c_name113 ⟨sa9, hX, hG, hn⟩ hcp.2.1) rfl rfl rfl ⟨by decide, by decide⟩ (Nat.le_of_ble_eq_true rfl) (by omega) (by omega) ?_
      rintro _ M7 ⟨rfl, hx9, hFx⟩
      dsimp only [Option.toList, List.cons_append, List.nil_append]
      obtain ⟨sa9, hX, hG, -⟩ := hx9
      have hF := hF.tr hFx
      exact s_zret C dX4_passCommand_83 Tr rfl (mB_z _) ⟨by unfold cmO; rw [hK] <;> rfl, ⟨_, _, _, ⟨sa9, by unfold cmA; rw [hK]; rw [hK] at hX; exact hX, hG, hn⟩, fun hok => by unfold cvP; rw [hK]; exact (by unfold cmV; rw [hK]; exact oI_sub (by unfold cmO at hok; rw [hK] at hok; exact hok) (fun j hj => ((po_le (g := g) (n := n) (p := cmP g n p) 3 11 0 (by omega)).2.2.2 j hj).1))⟩, hF⟩
    by_cases w4 : j = 4
    · subst w4
      refine s_tabI C 56 dX4_passCommand_15 (off := 41) (by decide) (by decide) rfl (by decide) ?_
      refine s_aload_n C 57 dX4_passCommand_56 rfl rfl ?_
      refine s_invV C 60 0 0 [] (mRv_of hX rfl) dX4_passCommand_57 rfl m_X4_32 (c_passTitle ⟨sa9, hX, hG, hn⟩ hcp.2.1) rfl rfl rfl ⟨by decide, by decide⟩ (Nat.le_of_ble_eq_true rfl) (by omega) (by omega) ?_
      rintro _ M8 ⟨rfl, hx9, hFx⟩
      dsimp only [Option.toList, List.cons_append, List.nil_append]
      obtain ⟨sa9, hX, hG, -⟩ := hx9
      have hF := hF.tr hFx
      exact s_zret C dX4_passCommand_60 Tr rfl (mB_z _) ⟨by unfold cmO; rw [hK] <;> rfl, ⟨_, _, _, ⟨sa9, by unfold cmA; rw [hK]; rw [hK] at hX; exact hX, hG, hn⟩, fun hok => by unfold cvP; rw [hK]; exact ⟨rfl, by unfold cmA; rw [hK] <;> rfl⟩⟩, hF⟩
    by_cases w5 : j = 5
    · subst w5
      refine s_tabI C 61 dX4_passCommand_15 (off := 46) (by decide) (by decide) rfl (by decide) ?_
      refine s_aload_n C 62 dX4_passCommand_61 rfl rfl ?_
      refine s_invV C 65 0 0 [] (mRv_of hX rfl) dX4_passCommand_62 rfl m_X4_42 (c_passNumber ⟨sa9, hX, hG, hn⟩ hcp.2.1) rfl rfl rfl ⟨by decide, by decide⟩ (Nat.le_of_ble_eq_true rfl) (by omega) (by omega) ?_
      rintro _ M9 ⟨rfl, hx9, hFx⟩
      dsimp only [Option.toList, List.cons_append, List.nil_append]
      obtain ⟨sa9, hX, hG, -⟩ := hx9
      have hF := hF.tr hFx
      exact s_zret C dX4_passCommand_65 Tr rfl (mB_z _) ⟨by unfold cmO; rw [hK] <;> rfl, ⟨_, _, _, ⟨sa9, by unfold cmA; rw [hK]; rw [hK] at hX; exact hX, hG, hn⟩, fun hok => by unfold cvP; rw [hK]; exact (by unfold cmV; rw [hK] <;> rfl)⟩, hF⟩
    by_cases w6 : j = 6
    · subst w6
      refine s_tabI C 84 dX4_passCommand_15 (off := 69) (by decide) (by decide) rfl (by decide) ?_
      refine s_iconst C 85 (nI 1) dX4_passCommand_84 rfl (by decide) ?_
      exact s_zret C dX4_passCommand_85 Tr rfl (by decide) ⟨rT (by unfold cmO; rw [hK] <;> rfl), ⟨_, _, _, ⟨sa9, by unfold cmA; rw [hK]; rw [hK] at hX; exact hX, hG, hn⟩, fun hok => by unfold cvP; rw [hK]; exact trivial⟩, hF⟩
    omega

set_option maxRecDepth 100000 in
set_option maxHeartbeats 4000000 in
theorem c_findFault {G : mG} {M : mM} {x n p fr to : Nat} {cmd val : Int32} {g : Nat → Int32} (h : xR M x n p cmd val fr to g) : CC G iX4_findFault 0 0 [.ref x] M (fun r M1 => r = some (.int (oI (ffO g n 81 0))) ∧ (∃ p2 c2 v2 f2 t2, xR M1 x n p2 c2 v2 f2 t2 g) ∧ mZ [20] M M1) := by
  refine CC.of rfl (Nat.le_of_ble_eq_true rfl) rfl (fun X C Tr => ?_)
  show V X 0 0 0 [some (.ref x), none] [] M
  obtain ⟨sa, hX, hG, hn⟩ := h
  have hF : mZ [20] M M := mZ.rf
  refine s_aload_n C 1 dX4_findFault_0 rfl rfl ?_
  refine s_invV C 4 0 0 [] (mRv_of hX rfl) dX4_findFault_1 rfl m_X4_22 (c_rewind ⟨sa, hX, hG, hn⟩) rfl rfl rfl ⟨by decide, by decide⟩ (Nat.le_of_ble_eq_true rfl) (by omega) (by omega) ?_
  rintro _ M1 ⟨rfl, hx9, hFx⟩
  dsimp only [Option.toList, List.cons_append, List.nil_append]
  obtain ⟨sa9, hX, hG, -⟩ := hx9
  have hF := hF.tr hFx
  refine s_iconst C 5 (nI 0) dX4_findFault_4 rfl (by decide) ?_
  refine s_istore_n C 6 dX4_findFault_5 rfl rfl rfl ?_
  dsimp only [List.set]
  suffices lp6 : ∀ (fu6 : Nat) (k p9 f9 t9 : Nat) (c9 v9 : Int32) (M9 : mM), 81 - k < fu6 → k ≤ 81 → p9 ≤ n → ffO g n 81 0 = ffO g n (81 - k) p9 → xR M9 x n p9 c9 v9 f9 t9 g → mZ [20] M M9 → V X 0 0 6 [some (.ref x), some (.int (nI k))] [] M9 from lp6 82 0 0 _ _ _ _ _ (by omega) (by omega) (by omega) rfl ⟨sa9, hX, hG, hn⟩ hF
  intro fu6
  induction fu6 with
  | zero => intro k p9 f9 t9 c9 v9 M9 hk0 hk1 hp9 hff hx8 hF; omega
  | succ fu6 ih6 =>
    intro k p9 f9 t9 c9 v9 M9 hk0 hk1 hp9 hff hx8 hF
    obtain ⟨sa8, hX, hG, -⟩ := hx8
    refine s_iload_n C 7 dX4_findFault_6 rfl rfl ?_
    refine s_bipush C 9 (nI 80) dX4_findFault_7 rfl (by decide) ?_
    refine s_icmp_gtN C 56 12 dX4_findFault_9 (by decide) rfl (by omega) (by omega) (fun z9 => ?_) (fun z9 => ?_)
    · skip
      have hz : ffO g n 81 0 = some p9 := by rw [hff, show 81 - k = 0 by omega]; rfl
      refine s_aload_n C 57 dX4_findFault_56 rfl rfl ?_
      refine s_getf C 60 dX4_findFault_57 rfl f_X4_19 hX rfl ?_
      exact s_iret C dX4_findFault_60 Tr rfl ⟨by rw [hz]; rfl, ⟨_, _, _, _, _, ⟨_, hX, hG, hn⟩⟩, hF⟩
    · skip
      refine s_aload_n C 13 dX4_findFault_12 rfl rfl ?_
      refine s_invV C 16 0 0 [] (mRv_of hX rfl) dX4_findFault_13 rfl m_X4_25 (c_passCommand ⟨sa8, hX, hG, hn⟩ hp9) rfl rfl rfl ⟨by decide, by decide⟩ (Nat.le_of_ble_eq_true rfl) (by omega) (by omega) ?_
      rintro _ M2 ⟨rfl, ⟨v2, f2, t2, hx9, hcv⟩, hFx⟩
      dsimp only [Option.toList, List.cons_append, List.nil_append]
      obtain ⟨sa9, hX, hG, -⟩ := hx9
      have hF := hF.tr hFx
      have hal := cmA_le (g := g) hp9
      refine s_if_neB C 24 19 dX4_findFault_16 (by decide) rfl (fun z16 => ?_) (fun z16 => ?_)
      · skip
        refine s_aload_n C 25 dX4_findFault_24 rfl rfl ?_
        refine s_getf C 28 dX4_findFault_25 rfl f_X4_19 hX rfl ?_
        refine s_aload_n C 29 dX4_findFault_28 rfl rfl ?_
        refine s_getf C 32 dX4_findFault_29 rfl f_X4_15 hX rfl ?_
        refine s_icmp_ltN C 38 35 dX4_findFault_32 (by decide) rfl (by omega) (by omega) (fun z32 => ?_) (fun z32 => ?_)
        · skip
          refine s_aload_n C 39 dX4_findFault_38 rfl rfl ?_
          refine s_invV C 42 0 0 [] (mRv_of hX rfl) dX4_findFault_39 rfl m_X4_29 (c_semi ⟨sa9, hX, hG, hn⟩ (by omega)) rfl rfl rfl ⟨by decide, by decide⟩ (Nat.le_of_ble_eq_true rfl) (by omega) (by omega) ?_
          rintro _ M3 ⟨rfl, hx9, hFx⟩
          dsimp only [Option.toList, List.cons_append, List.nil_append]
          obtain ⟨sa9, hX, hG, -⟩ := hx9
          have hF := hF.tr hFx
          refine s_if_neB C 50 45 dX4_findFault_42 (by decide) rfl (fun z42 => ?_) (fun z42 => ?_)
          · skip
            rw [if_pos z42] at hX
            have hlt : cmA g n p9 < n := z32
            refine s_iinc C 53 (nI (k + 1)) dX4_findFault_50 rfl rfl (by rw [← nI_add]; rfl) rfl ?_
            dsimp only [List.set]
            refine s_goto C 6 dX4_findFault_53 (by decide) ?_
            exact ih6 (k + 1) _ _ _ _ _ _ (by omega) (by omega) (by omega) (by rw [hff, show 81 - k = (81 - (k + 1)) + 1 by omega, ffO, if_pos z16, if_neg (by omega), if_pos z42]) ⟨sa9, hX, hG, hn⟩ hF
          · skip
            rw [if_neg (by rw [z42]; decide)] at hX
            have hz : ffO g n 81 0 = some (cmA g n p9) := by rw [hff, show 81 - k = (81 - (k + 1)) + 1 by omega, ffO, if_pos z16, if_neg (by omega), if_neg (by rw [z42]; decide)]
            refine s_aload_n C 46 dX4_findFault_45 rfl rfl ?_
            refine s_getf C 49 dX4_findFault_46 rfl f_X4_19 hX rfl ?_
            exact s_iret C dX4_findFault_49 Tr rfl ⟨by rw [hz]; rfl, ⟨_, _, _, _, _, ⟨_, hX, hG, hn⟩⟩, hF⟩
        · skip
          have hz : ffO g n 81 0 = none := by rw [hff, show 81 - k = (81 - (k + 1)) + 1 by omega, ffO, if_pos z16, if_pos (by omega)]
          refine s_bipush C 37 (-6) dX4_findFault_35 rfl (by decide) ?_
          exact s_iret C dX4_findFault_37 Tr rfl ⟨by rw [hz]; rfl, ⟨_, _, _, _, _, ⟨_, hX, hG, hn⟩⟩, hF⟩
      · skip
        have hz : ffO g n 81 0 = some (cmA g n p9) := by rw [hff, show 81 - k = (81 - (k + 1)) + 1 by omega, ffO, if_neg (by rw [z16]; decide)]
        refine s_aload_n C 20 dX4_findFault_19 rfl rfl ?_
        refine s_getf C 23 dX4_findFault_20 rfl f_X4_19 hX rfl ?_
        exact s_iret C dX4_findFault_23 Tr rfl ⟨by rw [hz]; rfl, ⟨_, _, _, _, _, ⟨_, hX, hG, hn⟩⟩, hF⟩

/-- whether the text is a title -/
def itB (g : Nat → Int32) (n : Nat) : Bool := !(ptF g n 24 0 true).2 && decide (n ≤ (ptF g n 24 0 true).1)
set_option maxRecDepth 100000 in
set_option maxHeartbeats 4000000 in
theorem c_isTitle {G : mG} {M : mM} {x n p fr to : Nat} {cmd val : Int32} {g : Nat → Int32} (h : xR M x n p cmd val fr to g) : CC G iX4_isTitle 0 0 [.ref x] M (fun r M1 => r = some (.int (mB (itB g n))) ∧ xR M1 x n (ptF g n 24 0 true).1 cmd val 0 (ptF g n 24 0 true).1 g ∧ mZ [20] M M1) := by
  refine CC.of rfl (Nat.le_of_ble_eq_true rfl) rfl (fun X C Tr => ?_)
  show V X 0 0 0 [some (.ref x)] [] M
  obtain ⟨sa, hX, hG, hn⟩ := h
  have hF : mZ [20] M M := mZ.rf
  refine s_aload_n C 1 dX4_isTitle_0 rfl rfl ?_
  refine s_invV C 4 0 0 [] (mRv_of hX rfl) dX4_isTitle_1 rfl m_X4_22 (c_rewind ⟨sa, hX, hG, hn⟩) rfl rfl rfl ⟨by decide, by decide⟩ (Nat.le_of_ble_eq_true rfl) (by omega) (by omega) ?_
  rintro _ M1 ⟨rfl, hx9, hFx⟩
  dsimp only [Option.toList, List.cons_append, List.nil_append]
  obtain ⟨sa9, hX, hG, -⟩ := hx9
  have hF := hF.tr hFx
  refine s_aload_n C 5 dX4_isTitle_4 rfl rfl ?_
  refine s_invV C 8 0 0 [] (mRv_of hX rfl) dX4_isTitle_5 rfl m_X4_32 (c_passTitle ⟨sa9, hX, hG, hn⟩ (by omega)) rfl rfl rfl ⟨by decide, by decide⟩ (Nat.le_of_ble_eq_true rfl) (by omega) (by omega) ?_
  rintro _ M2 ⟨rfl, hx9, hFx⟩
  dsimp only [Option.toList, List.cons_append, List.nil_append]
  obtain ⟨sa9, hX, hG, -⟩ := hx9
  have hF := hF.tr hFx
  have hle := ptF_le (g := g) (n := n) 24 0 true (by omega)
  refine s_if_eqB C 26 11 dX4_isTitle_8 (by decide) rfl (fun z8 => ?_) (fun z8 => ?_)
  · skip
    have hz : itB g n = false := by unfold itB; rw [z8]; rfl
    refine s_iconst C 27 (nI 0) dX4_isTitle_26 rfl (by decide) ?_
    exact s_zret C dX4_isTitle_27 Tr rfl (by decide) ⟨rF hz, ⟨sa9, hX, hG, hn⟩, hF⟩
  · skip
    refine s_aload_n C 12 dX4_isTitle_11 rfl rfl ?_
    refine s_getf C 15 dX4_isTitle_12 rfl f_X4_19 hX rfl ?_
    refine s_aload_n C 16 dX4_isTitle_15 rfl rfl ?_
    refine s_getf C 19 dX4_isTitle_16 rfl f_X4_15 hX rfl ?_
    refine s_icmp_ltN C 26 22 dX4_isTitle_19 (by decide) rfl (by omega) (by omega) (fun z19 => ?_) (fun z19 => ?_)
    · skip
      have hz : itB g n = false := by unfold itB; rw [decide_eq_false (by omega)]; exact Bool.and_false _
      refine s_iconst C 27 (nI 0) dX4_isTitle_26 rfl (by decide) ?_
      exact s_zret C dX4_isTitle_27 Tr rfl (by decide) ⟨rF hz, ⟨sa9, hX, hG, hn⟩, hF⟩
    · skip
      have hz : itB g n = true := by unfold itB; rw [z8, decide_eq_true (by omega)]; rfl
      refine s_iconst C 23 (nI 1) dX4_isTitle_22 rfl (by decide) ?_
      refine s_goto C 27 dX4_isTitle_23 (by decide) ?_
      exact s_zret C dX4_isTitle_27 Tr rfl (by decide) ⟨rT hz, ⟨sa9, hX, hG, hn⟩, hF⟩

set_option maxRecDepth 100000 in
set_option maxHeartbeats 4000000 in
theorem c_passedTitle {G : mG} {M : mM} {x n p fr to : Nat} {cmd val : Int32} {g : Nat → Int32} (h : xR M x n p cmd val fr to g) (hft : fr ≤ to) (hto : to ≤ n) (h24 : to - fr ≤ 24) (hch : ∀ k, k < n → vp_nar .char (g k) = g k) : CC G iX4_passedTitle 3 52 [.ref x] M (fun r M1 => ∃ a ini, r = some (.ref a) ∧ M a = none ∧ inT (fun j => g (fr + j)) ini (to - fr) ∧ tR M1 a (to - fr) (fun j => g (fr + j)) (1 + cnB (fun j => g (fr + j)) (to - fr)) ini (nI 0) ∧ mZ [] M M1) := by
  refine CC.of rfl (Nat.le_of_ble_eq_true rfl) rfl (fun X C Tr => ?_)
  show V X 3 52 0 [some (.ref x), none, none] [] M
  obtain ⟨sa, hX, hG, hn⟩ := h
  have hF : mZ [] M M := mZ.rf
  refine s_iconst C 1 (nI 0) dX4_passedTitle_0 rfl (by decide) ?_
  refine s_aload_n C 2 dX4_passedTitle_1 rfl rfl ?_
  refine s_getf C 5 dX4_passedTitle_2 rfl f_X4_59 hX rfl ?_
  refine s_aload_n C 6 dX4_passedTitle_5 rfl rfl ?_
  refine s_getf C 9 dX4_passedTitle_6 rfl f_X4_52 hX rfl ?_
  refine s_isubN C 10 dX4_passedTitle_9 rfl (by omega) ?_
  refine s_maxN C 13 dX4_passedTitle_10 rfl mm_X4_81 rfl (by decide) (Nat.le_of_ble_eq_true rfl) (by omega) (by omega) ?_
  refine s_newaU C 15 2 28 3 dX4_passedTitle_13 rfl (Or.inr ⟨rfl, rfl, ac_char⟩) (by omega) (by first | decide | omega) (by omega) (by omega) (fun la M1 hnla U2 => ?_)
  have hX := U2.n hnla hX
  have hG := U2.n hnla hG
  have hnla0 := hF.no hnla
  have hF := hF.new U2 hnla
  have hL := U2.s
  refine s_astore_n C 16 dX4_passedTitle_15 rfl rfl rfl ?_
  dsimp only [List.set]
  refine s_iconst C 17 (nI 0) dX4_passedTitle_16 rfl (by decide) ?_
  refine s_istore_n C 18 dX4_passedTitle_17 rfl rfl rfl ?_
  dsimp only [List.set]
  suffices lp18 : ∀ (fu18 : Nat) (i : Nat) (h9 : Nat → Int32) (M9 : mM), to - fr - i < fu18 → i ≤ to - fr → (∀ j, j < i → h9 j = g (fr + j)) → M9 x = some (20, .inl (5, [.ref sa, .int (nI n), .int (nI p), .int cmd, .int val, .int (nI fr), .int (nI to)])) → M9 sa = some (21, .inr (1, 80, .inl g)) → M9 la = some (3, .inr (1, max 0 (to - fr), .inl h9)) → mZ [] M M9 → V X 2 28 18 [some (.ref x), some (.ref la), some (.int (nI i))] [] M9 from lp18 25 0 _ _ (by omega) (by omega) (fun j hj => by omega) hX hG hL hF
  intro fu18
  induction fu18 with
  | zero => intro i h9 M9 hi0 hi hh hX hG hL hF; omega
  | succ fu18 ih18 =>
    intro i h9 M9 hi0 hi hh hX hG hL hF
    refine s_iload_n C 19 dX4_passedTitle_18 rfl rfl ?_
    refine s_aload_n C 20 dX4_passedTitle_19 rfl rfl ?_
    refine s_alen C 21 dX4_passedTitle_20 rfl hL (by decide) ?_
    refine s_icmp_geN C 58 24 dX4_passedTitle_21 (by decide) rfl (by omega) (by omega) (fun z21 => ?_) (fun z21 => ?_)
    · skip
      have hm0 : max 0 (to - fr) = to - fr := by omega
      have hi9 : i = to - fr := by omega
      rw [hm0] at hL
      refine s_ext la 3 1 (to - fr) (fun j => g (fr + j)) hL (fun j hj => hh j (by omega)) (fun M3 U4 => ?_)
      have hX := U4.o hL hX (by first | decide | omega)
      have hG := U4.o hL hG (by first | decide | omega)
      have hF := hF.putn U4 hnla0
      have hL := U4.s
      refine s_aload_n C 59 dX4_passedTitle_58 rfl rfl ?_
      refine s_invS C 62 0 0 [] dX4_passedTitle_59 rfl m_X4_119 (c_unused hL (by omega) (fun k hk => hch _ (by omega))) rfl rfl rfl ⟨by decide, by decide⟩ (Nat.le_of_ble_eq_true rfl) (by omega) (by omega) ?_
      rintro _ M5 ⟨a, ini, rfl, hna, hin, hT, hG1, hG2⟩
      dsimp only [Option.toList, List.cons_append, List.nil_append]
      exact s_aret C dX4_passedTitle_62 Tr rfl (Or.inl ⟨_, rfl⟩) ⟨a, ini, rfl, hF.no hna, hin, hT, ⟨fun b t e hb _ => hG1 b _ (fun q => by rw [q, hnla0] at hb; cases hb) (hF.at hb (fun h => nomatch h)), fun b hb => hF.no (hG2 b hb)⟩⟩
    · skip
      refine s_aload_n C 25 dX4_passedTitle_24 rfl rfl ?_
      refine s_getf C 28 dX4_passedTitle_25 rfl f_X4_52 hX rfl ?_
      refine s_iload_n C 29 dX4_passedTitle_28 rfl rfl ?_
      refine s_iaddN C 30 dX4_passedTitle_29 rfl ?_
      refine s_aload_n C 31 dX4_passedTitle_30 rfl rfl ?_
      refine s_getf C 34 dX4_passedTitle_31 rfl f_X4_9 hX rfl ?_
      refine s_alen C 35 dX4_passedTitle_34 rfl hG (by decide) ?_
      refine s_icmp_geN C 58 38 dX4_passedTitle_35 (by decide) rfl (by omega) (by omega) (fun z35 => ?_) (fun z35 => ?_)
      · skip
        omega
      · skip
        refine s_aload_n C 39 dX4_passedTitle_38 rfl rfl ?_
        refine s_iload_n C 40 dX4_passedTitle_39 rfl rfl ?_
        refine s_aload_n C 41 dX4_passedTitle_40 rfl rfl ?_
        refine s_getf C 44 dX4_passedTitle_41 rfl f_X4_9 hX rfl ?_
        refine s_aload_n C 45 dX4_passedTitle_44 rfl rfl ?_
        refine s_getf C 48 dX4_passedTitle_45 rfl f_X4_52 hX rfl ?_
        refine s_iload_n C 49 dX4_passedTitle_48 rfl rfl ?_
        refine s_iaddN C 50 dX4_passedTitle_49 rfl ?_
        refine s_cald C 51 dX4_passedTitle_50 rfl hG (by omega) (by omega) ?_
        refine s_castU C 52 dX4_passedTitle_51 rfl hL (by first | decide | omega) (by omega) (by omega) (hch _ (by omega)) (fun M6 U7 => ?_)
        have hX := U7.o hL hX (by first | decide | omega)
        have hG := U7.o hL hG (by first | decide | omega)
        have hF := hF.putn U7 hnla0
        have hL := U7.s
        refine s_iinc C 55 (nI (i + 1)) dX4_passedTitle_52 rfl rfl (by rw [← nI_add]; rfl) rfl ?_
        dsimp only [List.set]
        refine s_goto C 18 dX4_passedTitle_55 (by decide) ?_
        exact ih18 (i + 1) _ _ (by omega) (by omega) (fun j hj => by by_cases e : j = i; (· rw [e]; exact pk_us); rw [pk_un e]; exact hh j (by omega)) hX hG hL hF

theorem sR_rv {G : mG} {M : mM} {k s T mo od ql : Nat} {q : Nat → Int32} {ln : Nat → Nat} {fl : Nat → Nat → Int32} {us : Nat → Int32} (h : sR G M k s T mo od ql q ln fl us) : mRv G M RX2 s := by
  obtain ⟨la, qa, cap, g, ad, ifn, h1, -⟩ := h
  exact mRv_of h1 rfl
set_option maxRecDepth 100000 in
set_option maxHeartbeats 4000000 in
theorem c_copyPassed {G : mG} {M : mM} {x n p fr to : Nat} {cmd val : Int32} {g : Nat → Int32} (h : xR M x n p cmd val fr to g) {k s T mo od ql : Nat} {q : Nat → Int32} {ln : Nat → Nat} {fl : Nat → Nat → Int32} {us : Nat → Int32} (hs : sR G M k s T mo od ql q ln fl us) (hft : fr ≤ to) (hto : to ≤ n) (h24 : to - fr ≤ 24) (hch : ∀ k, k < n → vp_nar .char (g k) = g k) : CC G iX4_copyPassed 0 0 [.ref x, .ref s] M (fun r M1 => r = none ∧ ∃ q2, (∀ j, j < to - fr → q2 j = g (fr + j)) ∧ sR G M1 k s T mo od (to - fr) q2 ln fl us ∧ mZ [100 + 10 * k, 103 + 10 * k] M M1) := by
  refine CC.of rfl (Nat.le_of_ble_eq_true rfl) rfl (fun X C Tr => ?_)
  show V X 0 0 0 [some (.ref x), some (.ref s), none] [] M
  obtain ⟨sa, hX, hG, hn⟩ := h
  have hX0 := hX
  have hG0 := hG
  obtain ⟨la, qa, cap, gg, ad, ifn, hS, hL, hQ, hT, hmo, hod, hql, hA⟩ := hs
  have hF : mZ [100 + 10 * k] M M := mZ.rf
  refine s_aload_n C 1 dX4_copyPassed_0 rfl rfl ?_
  refine s_iconst C 2 (nI 0) dX4_copyPassed_1 rfl (by decide) ?_
  refine s_putU C 5 dX4_copyPassed_2 rfl p_X4_125 hS (by first | decide | omega) rfl rfl rfl (fs' := [.ref la, .ref qa, .int (nI 0), .int (nI mo), .int (nI od)]) rfl (fun M1 U2 => ?_)
  have hX := U2.o hS hX (by first | decide | omega)
  have hG := U2.o hS hG (by first | decide | omega)
  have hF := hF.put U2 hS (by first | decide | (simp; done) | (simp; omega) | (simp [*]; done))
  have hS := U2.s
  have hs8 : sR G M1 k s T mo od 0 q ln fl us := sR.upd (hF.mono (by simp)) hS hL (hF.at hQ (by first | (simp; done) | (simp; omega))) hT hmo hod (by omega) hA
  have hF := hF.mono (T' := [100 + 10 * k, 103 + 10 * k]) (by simp)
  refine s_aload_n C 6 dX4_copyPassed_5 rfl rfl ?_
  refine s_getf C 9 dX4_copyPassed_6 rfl f_X4_52 hX rfl ?_
  refine s_istore_n C 10 dX4_copyPassed_9 rfl rfl rfl ?_
  dsimp only [List.set]
  suffices lp10 : ∀ (fu10 : Nat) (i : Nat) (q9 : Nat → Int32) (M9 : mM), to - i < fu10 → i ≤ to → fr ≤ i → (∀ j, j < i - fr → q9 j = g (fr + j)) → sR G M9 k s T mo od (i - fr) q9 ln fl us → mZ [100 + 10 * k, 103 + 10 * k] M M9 → V X 0 0 10 [some (.ref x), some (.ref s), some (.int (nI i))] [] M9 from lp10 81 fr q _ (by omega) (by omega) (by omega) (fun j hj => by omega) (by rw [Nat.sub_self]; exact hs8) hF
  intro fu10
  induction fu10 with
  | zero => intro i q9 M9 hi0 hi hi2 hq9 hs8 hF; omega
  | succ fu10 ih10 =>
    intro i q9 M9 hi0 hi hi2 hq9 hs8 hF
    have hX := hF.at hX0 (by first | (simp; done) | (simp; omega))
    have hG := hF.at hG0 (by first | (simp; done) | (simp; omega))
    refine s_iload_n C 11 dX4_copyPassed_10 rfl rfl ?_
    refine s_aload_n C 12 dX4_copyPassed_11 rfl rfl ?_
    refine s_getf C 15 dX4_copyPassed_12 rfl f_X4_59 hX rfl ?_
    refine s_icmp_geN C 43 18 dX4_copyPassed_15 (by decide) rfl (by omega) (by omega) (fun z15 => ?_) (fun z15 => ?_)
    · skip
      have hi9 : i = to := by omega
      subst hi9
      exact s_vret C dX4_copyPassed_43 Tr rfl ⟨rfl, q9, hq9, hs8, hF⟩
    · skip
      refine s_iload_n C 19 dX4_copyPassed_18 rfl rfl ?_
      refine s_aload_n C 20 dX4_copyPassed_19 rfl rfl ?_
      refine s_getf C 23 dX4_copyPassed_20 rfl f_X4_9 hX rfl ?_
      refine s_alen C 24 dX4_copyPassed_23 rfl hG (by decide) ?_
      refine s_icmp_geN C 43 27 dX4_copyPassed_24 (by decide) rfl (by omega) (by omega) (fun z24 => ?_) (fun z24 => ?_)
      · skip
        omega
      · skip
        refine s_aload_n C 28 dX4_copyPassed_27 rfl rfl ?_
        refine s_aload_n C 29 dX4_copyPassed_28 rfl rfl ?_
        refine s_getf C 32 dX4_copyPassed_29 rfl f_X4_9 hX rfl ?_
        refine s_iload_n C 33 dX4_copyPassed_32 rfl rfl ?_
        refine s_cald C 34 dX4_copyPassed_33 rfl hG (by omega) (by omega) ?_
        refine s_invV C 37 0 0 [] (sR_rv hs8) dX4_copyPassed_34 rfl m_X4_130 (c_append hs8 (hch i (by omega)) (by omega)) rfl rfl rfl ⟨by decide, by decide⟩ (Nat.le_of_ble_eq_true rfl) (by omega) (by omega) ?_
        rintro _ M3 ⟨rfl, hs7, hF7⟩
        dsimp only [Option.toList, List.cons_append, List.nil_append]
        have hX := hF7.at hX (by first | (simp; done) | (simp; omega))
        have hG := hF7.at hG (by first | (simp; done) | (simp; omega))
        have hF := hF.tr hF7
        refine s_iinc C 40 (nI (i + 1)) dX4_copyPassed_37 rfl rfl (by rw [← nI_add]; rfl) rfl ?_
        dsimp only [List.set]
        refine s_goto C 10 dX4_copyPassed_40 (by decide) ?_
        exact ih10 (i + 1) (upd q9 (i - fr) (g i)) _ (by omega) (by omega) (by omega) (fun j hj => by by_cases e : j = i - fr; (· rw [e, show fr + (i - fr) = i by omega]; exact pk_us); rw [pk_un e]; exact hq9 j (by omega)) (by rw [show i + 1 - fr = i - fr + 1 by omega]; exact hs7) hF

set_option maxRecDepth 100000 in
set_option maxHeartbeats 4000000 in
theorem c_textInit {G : mG} {M : mM} {x : Nat} (hX : M x = some (20, .inl (5, [.null, .int 0, .int 0, .int 0, .int 0, .int 0, .int 0]))) : CC G iX4_init 1 80 [.ref x] M (fun r M1 => r = none ∧ xR M1 x 0 0 0 0 0 0 (fun _ => 0) ∧ mZ [20] M M1) := by
  refine CC.of rfl (Nat.le_of_ble_eq_true rfl) rfl (fun X C Tr => ?_)
  show V X 1 80 0 [some (.ref x)] [] M
  have hF : mZ [20] M M := mZ.rf
  refine s_aload_n C 1 dX4_init_0 rfl rfl ?_
  refine s_oi C 4 dX4_init_1 rfl oi_X4_3 rfl (by decide) (Nat.le_of_ble_eq_true rfl) ?_
  refine s_aload_n C 5 dX4_init_4 rfl rfl ?_
  refine s_bipush C 7 (nI 80) dX4_init_5 rfl (by decide) ?_
  refine s_newaU C 9 0 0 21 dX4_init_7 rfl (Or.inr ⟨rfl, rfl, ac_char⟩) (by omega) (by first | decide | omega) (by omega) (by omega) (fun sa M1 hnsa U2 => ?_)
  have hX := U2.n hnsa hX
  have hnsa0 := hF.no hnsa
  have hF := hF.new U2 hnsa
  have hG := U2.s
  refine s_putFU C 12 dX4_init_9 rfl p_X4_9 rfl hX (by first | decide | omega) rfl rfl rfl (fs' := [.ref sa, .int 0, .int 0, .int 0, .int 0, .int 0, .int 0]) rfl (fun M3 U4 => ?_)
  have hG := U4.o hX hG (by first | decide | omega)
  have hF := hF.put U4 hX (by first | decide | (simp; done) | (simp; omega) | (simp [*]; done))
  have hX := U4.s
  exact s_vret C dX4_init_12 Tr rfl ⟨rfl, ⟨sa, hX, hG, by omega⟩, hF⟩
