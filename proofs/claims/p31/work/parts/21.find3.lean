/-! titles as they stand in a text -/
def ptI (g : Nat → Int32) (p p' : Nat) (nd : Bool) : Prop := p ≤ p' ∧ (nd = false → p < p' ∧ g (p' - 1) ≠ nI 32) ∧ (∀ j, p ≤ j → j < p' → okC (g j)) ∧ (p < p' → g p ≠ nI 32) ∧ ∀ j, p ≤ j → j + 1 < p' → g j = nI 32 → g (j + 1) ≠ nI 32
theorem isL_ok {c : Int32} (h : isL c = true) : okC c := by
  unfold isL isD at h
  simp only [Bool.or_eq_true, decide_eq_true_eq] at h
  unfold okC
  rcases h with h | h
  · exact Or.inr (Or.inl ⟨i32_le.mpr h.1, h.2⟩)
  · exact Or.inr (Or.inr ⟨i32_le.mpr h.1, i32_le.mpr h.2⟩)
theorem ptF_I {g : Nat → Int32} {n p : Nat} : ∀ (fu p' : Nat) (nd : Bool), ptI g p p' nd → ptI g p (ptF g n fu p' nd).1 (ptF g n fu p' nd).2 := by
  intro fu
  induction fu with
  | zero => intro p' nd h; exact h
  | succ fu ih =>
    intro p' nd h
    rw [ptF]
    split
    · split
      · rename_i hb
        split
        · exact h
        · rename_i hn
          have hnd : nd = false := by
            cases nd with
            | false => rfl
            | true => exact absurd (Or.inl rfl) hn
          obtain ⟨h1, h2, h3, h4, h5⟩ := h
          have h6 := h2 hnd
          refine ih _ _ ⟨by omega, fun q => (by cases q), fun j g1 g2 => ?_, fun _ => h4 h6.1, fun j g1 g2 g3 => ?_⟩
          · by_cases e : j = p'
            · rw [e, hb]; exact Or.inl rfl
            · exact h3 j g1 (by omega)
          · by_cases e : j + 1 = p'
            · exact absurd (by rw [show p' - 1 = j by omega]; exact g3) h6.2
            · exact h5 j g1 (by omega) g3
      · rename_i hb
        split
        · rename_i hl
          obtain ⟨h1, h2, h3, h4, h5⟩ := h
          refine ih _ _ ⟨by omega, fun _ => ⟨by omega, by rw [show p' + 1 - 1 = p' by omega]; exact hb⟩, fun j g1 g2 => ?_, fun _ => ?_, fun j g1 g2 g3 => ?_⟩
          · by_cases e : j = p'
            · rw [e]; exact isL_ok hl
            · exact h3 j g1 (by omega)
          · by_cases e : p = p'
            · rw [e]; exact hb
            · exact h4 (by omega)
          · by_cases e : j + 1 = p'
            · rw [e]; exact hb
            · exact h5 j g1 (by omega) g3
        · exact h
    · exact h
/-- what is read as a title is one -/
theorem ptF_TV {g : Nat → Int32} {n p : Nat} (hp : p ≤ n) (h : (ptF g n 24 p true).2 = false) : TV ((ptF g n 24 p true).1 - p) (fun j => g (p + j)) := by
  have h1 := ptF_I (g := g) (n := n) (p := p) 24 p true ⟨Nat.le_refl _, fun q => (by cases q), fun j g1 g2 => by omega, fun q => by omega, fun j g1 g2 => by omega⟩
  have h2 := ptF_le (g := g) (n := n) 24 p true hp
  rw [h] at h1
  generalize (ptF g n 24 p true).1 = e at h1 h2
  obtain ⟨g1, g2, g3, g4, g5⟩ := h1
  have g6 := g2 rfl
  refine ⟨by omega, by omega, ?_, ?_, fun k hk hb => ?_, fun k hk => g3 (p + k) (by omega) (by omega)⟩
  · exact g4 g6.1
  · show g (p + (e - p - 1)) ≠ nI 32
    rw [show p + (e - p - 1) = e - 1 by omega]
    exact g6.2
  · show g (p + (k + 1)) ≠ nI 32
    exact g5 (p + k) (by omega) (by omega) hb
theorem itB_TV {g : Nat → Int32} {n : Nat} (h : itB g n = true) : (ptF g n 24 0 true).1 = n ∧ TV n (fun j => g (0 + j)) ∧ n ≤ 24 := by
  unfold itB at h
  simp only [Bool.and_eq_true, Bool.not_eq_true', decide_eq_true_eq] at h
  have h1 := ptF_le (g := g) (n := n) 24 0 true (by omega)
  have e : (ptF g n 24 0 true).1 = n := by omega
  have := ptF_TV (g := g) (n := n) (p := 0) (by omega) h.1
  rw [e] at this
  exact ⟨e, this, by omega⟩
def refV (T : Nat) (ln : Nat → Nat) (fl : Nat → Nat → Int32) (f : Nat → Int32) (n : Nat) : Int32 := if dupB T ln fl f n = true then -3 else if 16 ≤ T then -4 else nI 0
def stAdd (T mo od ql : Nat) (q : Nat → Int32) (ln : Nat → Nat) (fl : Nat → Nat → Int32) (us : Nat → Int32) (n : Nat) (f : Nat → Int32) (u : Int32) : mSt := (T + 1, mo, od, ql, q, adF ln T n, adF fl T f, adF us T u)
theorem refV_c {T : Nat} {ln : Nat → Nat} {fl : Nat → Nat → Int32} {f : Nat → Int32} {n : Nat} : (refV T ln fl f n = -3 ∨ refV T ln fl f n = -4) ∨ (refV T ln fl f n = nI 0 ∧ dupB T ln fl f n = false ∧ T < 16) := by
  unfold refV
  split
  · exact Or.inl (Or.inl rfl)
  · rename_i h
    split
    · exact Or.inl (Or.inr rfl)
    · exact Or.inr ⟨rfl, by simpa using h, by omega⟩
theorem refV_lt {T : Nat} {ln : Nat → Nat} {fl : Nat → Nat → Int32} {f : Nat → Int32} {n : Nat} : refV T ln fl f n < 0 ∨ (refV T ln fl f n = nI 0 ∧ dupB T ln fl f n = false ∧ T < 16) := by
  rcases refV_c (T := T) (ln := ln) (fl := fl) (f := f) (n := n) with (h | h) | h
  · exact Or.inl (by rw [h]; decide)
  · exact Or.inl (by rw [h]; decide)
  · exact Or.inr h
set_option maxRecDepth 100000 in
set_option maxHeartbeats 4000000 in
theorem z_erase {G : mG} {M : mM} {z T mo od ql c n : Nat} {q : Nat → Int32} {ln : Nat → Nat} {fl : Nat → Nat → Int32} {us : Nat → Int32} {hs : Nat → mSt} {g : Nat → Int32} (hz : zR G M z (T, mo, od, ql, q, ln, fl, us) c hs n g) : CC G iX6_erase 16 352 [.ref z] M (fun r M1 => r = some (.int (if 0 < ql then nI (rkN T mo od (ql - 1) q ln fl us T).1 else -3)) ∧ zR G M1 z (if 0 < ql then (T, mo, od, ql - 1, q, ln, fl, us) else (T, mo, od, ql, q, ln, fl, us)) (if 0 < ql then (min (c + 1) 6) else c) (if 0 < ql then (hPush (T, mo, od, ql, q, ln, fl, us) hs) else hs) n g ∧ mZ TZ M M1) := by
  refine CC.of rfl (Nat.le_of_ble_eq_true rfl) rfl (fun X C Tr => ?_)
  show V X 16 352 0 [some (.ref z)] [] M
  obtain ⟨rc, rr, rp, y1, y2, y3, y4, s, tr, h, tx, rk, sy, hZ, hs0, ⟨yt, htr⟩, hh, ⟨p, cmd, val, fr, to, hx⟩, hk, ⟨yw, hy⟩, hch⟩ := hz
  obtain ⟨q9, hq9, hqn9, hsR⟩ := hs0.get
  have hsR0 := hsR
  obtain ⟨la, qa, cap, gg, ad, ifn, hS, hL, hQ, hT, hmo, hod, hql, hA⟩ := hsR
  refine s_aload_n C 1 dX6_erase_0 rfl rfl ?_
  refine s_getf C 4 dX6_erase_1 rfl f_X6_10 hZ rfl ?_
  refine s_getf C 7 dX6_erase_4 rfl f_X6_110 hS rfl ?_
  refine s_if_gtN C 13 10 dX6_erase_7 (by decide) rfl (by omega) (fun z7 => ?_) (fun z7 => ?_)
  · skip
    refine s_aload_n C 14 dX6_erase_13 rfl rfl ?_
    refine s_getf C 17 dX6_erase_14 rfl f_X6_22 hZ rfl ?_
    refine s_aload_n C 18 dX6_erase_17 rfl rfl ?_
    refine s_getf C 21 dX6_erase_18 rfl f_X6_10 hZ rfl ?_
    refine s_invV C 24 0 0 [] (hR_rv hh) dX6_erase_21 rfl m_X6_62 (c_save hh hs0 (by omega)) rfl rfl rfl ⟨by decide, by decide⟩ (Nat.le_of_ble_eq_true rfl) (by omega) (by omega) ?_
    rintro _ M1 ⟨rfl, hh9, hs9, hFh⟩
    dsimp only [Option.toList, List.cons_append, List.nil_append]
    have hZ := hFh.at hZ (by first | (simp; done) | (simp; omega) | (rw [mem_TH]; omega) | (rw [mem_TZ]; omega))
    have htr := htr.at hFh (by first | (simp; done) | (simp; omega) | (rw [mem_TH]; omega) | (rw [mem_TZ]; omega)) (by first | (simp; done) | (simp; omega) | (rw [mem_TH]; omega) | (rw [mem_TZ]; omega)) (fun j hj => by first | (simp; done) | (simp; omega) | (rw [mem_TH]; omega) | (rw [mem_TZ]; omega))
    have hx := hx.at hFh (by first | (simp; done) | (simp; omega) | (rw [mem_TH]; omega) | (rw [mem_TZ]; omega)) (by first | (simp; done) | (simp; omega) | (rw [mem_TH]; omega) | (rw [mem_TZ]; omega))
    have hk := hk.at hFh (by first | (simp; done) | (simp; omega) | (rw [mem_TH]; omega) | (rw [mem_TZ]; omega)) (by first | (simp; done) | (simp; omega) | (rw [mem_TH]; omega) | (rw [mem_TZ]; omega)) (by first | (simp; done) | (simp; omega) | (rw [mem_TH]; omega) | (rw [mem_TZ]; omega))
    have hy := hy.at hFh (by first | (simp; done) | (simp; omega) | (rw [mem_TH]; omega) | (rw [mem_TZ]; omega)) (by first | (simp; done) | (simp; omega) | (rw [mem_TH]; omega) | (rw [mem_TZ]; omega)) (by first | (simp; done) | (simp; omega) | (rw [mem_TH]; omega) | (rw [mem_TZ]; omega))
    have hh := hh9
    have hs0 := hs9
    obtain ⟨q9, hq9, hqn9, hsR⟩ := hs0.get
    have hsR0 := hsR
    obtain ⟨la, qa, cap, gg, ad, ifn, hS, hL, hQ, hT, hmo, hod, hql, hA⟩ := hsR
    have hF := hFh.mono (T' := TZ) (fun t ht => by rw [mem_TH] at ht; rw [mem_TZ]; omega)
    have hFs : mZ [100 + 10 * 0, 103 + 10 * 0] M1 M1 := mZ.rf
    refine s_aload_n C 25 dX6_erase_24 rfl rfl ?_
    refine s_getf C 28 dX6_erase_25 rfl f_X6_10 hZ rfl ?_
    refine s_dup C 29 dX6_erase_28 rfl rfl ?_
    refine s_getf C 32 dX6_erase_29 rfl f_X6_110 hS rfl ?_
    refine s_iconst C 33 (nI 1) dX6_erase_32 rfl (by decide) ?_
    refine s_isubN C 34 dX6_erase_33 rfl (by omega) ?_
    refine s_putU C 37 dX6_erase_34 rfl p_X6_110 hS (by first | decide | omega) rfl rfl rfl (fs' := [.ref la, .ref qa, .int (nI (ql - 1)), .int (nI mo), .int (nI od)]) rfl (fun M2 U3 => ?_)
    have hZ := U3.o hS hZ (by first | decide | omega)
    have hQ := U3.o hS hQ (by first | decide | omega)
    have hFs := hFs.put U3 hS (by first | decide | (simp; done) | (simp; omega) | (simp [*]; done))
    have hS := U3.s
    refine s_aload_n C 38 dX6_erase_37 rfl rfl ?_
    have hz6 : zR G M2 z (T, mo, od, ql - 1, q, ln, fl, us) (min (c + 1) 6) (hPush (T, mo, od, ql, q, ln, fl, us) hs) n g := ⟨_, _, _, _, _, _, _, s, tr, h, tx, rk, sy, hZ, (sS.mk (fun y hy => hq9 y (by omega)) hqn9 (sR.upd hFs hS hL hQ hT hmo hod (by omega) hA)), ⟨_, htr.at hFs (by first | (simp; done) | (simp; omega) | (rw [mem_TH]; omega) | (rw [mem_TZ]; omega)) (by first | (simp; done) | (simp; omega) | (rw [mem_TH]; omega) | (rw [mem_TZ]; omega)) (fun j hj => by first | (simp; done) | (simp; omega) | (rw [mem_TH]; omega) | (rw [mem_TZ]; omega))⟩, (hh.at hFs (by first | (simp; done) | (simp; omega) | (rw [mem_TH]; omega) | (rw [mem_TZ]; omega)) (by first | (simp; done) | (simp; omega) | (rw [mem_TH]; omega) | (rw [mem_TZ]; omega)) (by first | (simp; done) | (simp; omega) | (rw [mem_TH]; omega) | (rw [mem_TZ]; omega)) (fun t ht => by rw [mem_TH] at ht; first | (simp; done) | (simp; omega))), ⟨_, _, _, _, _, (hx.at hFs (by first | (simp; done) | (simp; omega) | (rw [mem_TH]; omega) | (rw [mem_TZ]; omega)) (by first | (simp; done) | (simp; omega) | (rw [mem_TH]; omega) | (rw [mem_TZ]; omega)))⟩, (hk.at hFs (by first | (simp; done) | (simp; omega) | (rw [mem_TH]; omega) | (rw [mem_TZ]; omega)) (by first | (simp; done) | (simp; omega) | (rw [mem_TH]; omega) | (rw [mem_TZ]; omega)) (by first | (simp; done) | (simp; omega) | (rw [mem_TH]; omega) | (rw [mem_TZ]; omega))), ⟨_, (hy.at hFs (by first | (simp; done) | (simp; omega) | (rw [mem_TH]; omega) | (rw [mem_TZ]; omega)) (by first | (simp; done) | (simp; omega) | (rw [mem_TH]; omega) | (rw [mem_TZ]; omega)) (by first | (simp; done) | (simp; omega) | (rw [mem_TH]; omega) | (rw [mem_TZ]; omega)))⟩, hch⟩
    refine s_invV C 41 0 0 [] (zR_rv hz6) dX6_erase_38 rfl m_X6_199 (z_results hz6) rfl rfl rfl ⟨by decide, by decide⟩ (Nat.le_of_ble_eq_true rfl) (by omega) (by omega) ?_
    rintro _ M4 ⟨rfl, ⟨_, _, _, _, hz5⟩, hFr⟩
    dsimp only [Option.toList, List.cons_append, List.nil_append]
    exact s_iret C dX6_erase_41 Tr rfl ⟨by rw [if_pos z7], by rw [if_pos z7, if_pos z7, if_pos z7]; exact hz5.R, (hF.tr (hFs.mono (fun t ht => by first | (rw [mem_TH] at ht; rw [mem_TZ]; omega) | (simp at ht; done) | (rw [mem_TZ]; simp at ht; omega)))).tr (hFr.mono (fun t ht => by first | (rw [mem_TH] at ht; rw [mem_TZ]; omega) | (simp at ht; done) | (rw [mem_TZ]; simp at ht; omega)))⟩
  · skip
    have hc0 : ¬ 0 < ql := by omega
    refine s_bipush C 12 (-3) dX6_erase_10 rfl (by decide) ?_
    exact s_iret C dX6_erase_12 Tr rfl ⟨by rw [if_neg hc0], by rw [if_neg hc0, if_neg hc0, if_neg hc0]; exact ⟨_, _, _, _, _, _, _, s, tr, h, tx, rk, sy, hZ, hs0, ⟨_, htr⟩, hh, ⟨_, _, _, _, _, hx⟩, hk, ⟨_, hy⟩, hch⟩, mZ.rf⟩

set_option maxRecDepth 100000 in
set_option maxHeartbeats 4000000 in
theorem z_ask {G : mG} {M : mM} {z T mo od ql c n : Nat} {q : Nat → Int32} {ln : Nat → Nat} {fl : Nat → Nat → Int32} {us : Nat → Int32} {hs : Nat → mSt} {g : Nat → Int32} (hz : zR G M z (T, mo, od, ql, q, ln, fl, us) c hs n g) {a : Int32} : CC G iX6_ask 16 352 [.ref z, .int a] M (fun r M1 => r = some (.int (if ¬ (a = nI 32 ∨ isL a = true) then -2 else if a = nI 32 ∧ qeB ql q = false then -3 else if 24 ≤ ql then -4 else nI (rkN T mo od (ql + 1) (upd q ql a) ln fl us T).1)) ∧ zR G M1 z (if ((a = nI 32 ∨ isL a = true) ∧ ¬ (a = nI 32 ∧ qeB ql q = false) ∧ ql < 24) then (T, mo, od, ql + 1, upd q ql a, ln, fl, us) else (T, mo, od, ql, q, ln, fl, us)) (if ((a = nI 32 ∨ isL a = true) ∧ ¬ (a = nI 32 ∧ qeB ql q = false) ∧ ql < 24) then (min (c + 1) 6) else c) (if ((a = nI 32 ∨ isL a = true) ∧ ¬ (a = nI 32 ∧ qeB ql q = false) ∧ ql < 24) then (hPush (T, mo, od, ql, q, ln, fl, us) hs) else hs) n g ∧ mZ TZ M M1) := by
  refine CC.of rfl (Nat.le_of_ble_eq_true rfl) rfl (fun X C Tr => ?_)
  show V X 16 352 0 [some (.ref z), some (.int a)] [] M
  obtain ⟨rc, rr, rp, y1, y2, y3, y4, s, tr, h, tx, rk, sy, hZ, hs0, ⟨yt, htr⟩, hh, ⟨p, cmd, val, fr, to, hx⟩, hk, ⟨yw, hy⟩, hch⟩ := hz
  obtain ⟨q9, hq9, hqn9, hsR⟩ := hs0.get
  have hsR0 := hsR
  obtain ⟨la, qa, cap, gg, ad, ifn, hS, hL, hQ, hT, hmo, hod, hql, hA⟩ := hsR
  refine s_iload_n C 1 dX6_ask_0 rfl rfl ?_
  refine s_bipush C 3 (nI 32) dX6_ask_1 rfl (by decide) ?_
  refine s_icmp_eq C 16 6 dX6_ask_3 (by decide) rfl (fun z3 => ?_) (fun z3 => ?_)
  · skip
    have h32 : a = nI 32 ∨ isL a = true := Or.inl z3
    refine s_iload_n C 17 dX6_ask_16 rfl rfl ?_
    refine s_bipush C 19 (nI 32) dX6_ask_17 rfl (by decide) ?_
    refine s_icmp_ne C 35 22 dX6_ask_19 (by decide) rfl (fun z19 => ?_) (fun z19 => ?_)
    · skip
      have hw : ¬ (a = nI 32 ∧ qeB ql q = false) := fun w7 => z19 w7.1
      refine s_aload_n C 36 dX6_ask_35 rfl rfl ?_
      refine s_getf C 39 dX6_ask_36 rfl f_X6_10 hZ rfl ?_
      refine s_getf C 42 dX6_ask_39 rfl f_X6_110 hS rfl ?_
      refine s_bipush C 44 (nI 24) dX6_ask_42 rfl (by decide) ?_
      refine s_icmp_ltN C 50 47 dX6_ask_44 (by decide) rfl (by omega) (by omega) (fun z44 => ?_) (fun z44 => ?_)
      · skip
        have hyes : ((a = nI 32 ∨ isL a = true) ∧ ¬ (a = nI 32 ∧ qeB ql q = false) ∧ ql < 24) := ⟨h32, hw, by omega⟩
        refine s_aload_n C 51 dX6_ask_50 rfl rfl ?_
        refine s_getf C 54 dX6_ask_51 rfl f_X6_22 hZ rfl ?_
        refine s_aload_n C 55 dX6_ask_54 rfl rfl ?_
        refine s_getf C 58 dX6_ask_55 rfl f_X6_10 hZ rfl ?_
        refine s_invV C 61 0 0 [] (hR_rv hh) dX6_ask_58 rfl m_X6_62 (c_save hh hs0 (by omega)) rfl rfl rfl ⟨by decide, by decide⟩ (Nat.le_of_ble_eq_true rfl) (by omega) (by omega) ?_
        rintro _ M1 ⟨rfl, hh9, hs9, hFh⟩
        dsimp only [Option.toList, List.cons_append, List.nil_append]
        have hZ := hFh.at hZ (by first | (simp; done) | (simp; omega) | (rw [mem_TH]; omega) | (rw [mem_TZ]; omega))
        have htr := htr.at hFh (by first | (simp; done) | (simp; omega) | (rw [mem_TH]; omega) | (rw [mem_TZ]; omega)) (by first | (simp; done) | (simp; omega) | (rw [mem_TH]; omega) | (rw [mem_TZ]; omega)) (fun j hj => by first | (simp; done) | (simp; omega) | (rw [mem_TH]; omega) | (rw [mem_TZ]; omega))
        have hx := hx.at hFh (by first | (simp; done) | (simp; omega) | (rw [mem_TH]; omega) | (rw [mem_TZ]; omega)) (by first | (simp; done) | (simp; omega) | (rw [mem_TH]; omega) | (rw [mem_TZ]; omega))
        have hk := hk.at hFh (by first | (simp; done) | (simp; omega) | (rw [mem_TH]; omega) | (rw [mem_TZ]; omega)) (by first | (simp; done) | (simp; omega) | (rw [mem_TH]; omega) | (rw [mem_TZ]; omega)) (by first | (simp; done) | (simp; omega) | (rw [mem_TH]; omega) | (rw [mem_TZ]; omega))
        have hy := hy.at hFh (by first | (simp; done) | (simp; omega) | (rw [mem_TH]; omega) | (rw [mem_TZ]; omega)) (by first | (simp; done) | (simp; omega) | (rw [mem_TH]; omega) | (rw [mem_TZ]; omega)) (by first | (simp; done) | (simp; omega) | (rw [mem_TH]; omega) | (rw [mem_TZ]; omega))
        have hh := hh9
        have hs0 := hs9
        obtain ⟨q9, hq9, hqn9, hsR⟩ := hs0.get
        have hsR0 := hsR
        obtain ⟨la, qa, cap, gg, ad, ifn, hS, hL, hQ, hT, hmo, hod, hql, hA⟩ := hsR
        have hF := hFh.mono (T' := TZ) (fun t ht => by rw [mem_TH] at ht; rw [mem_TZ]; omega)
        have hz7 : zR G M1 z (T, mo, od, ql, q, ln, fl, us) (min (c + 1) 6) (hPush (T, mo, od, ql, q, ln, fl, us) hs) n g := ⟨_, _, _, _, _, _, _, s, tr, h, tx, rk, sy, hZ, hs0, ⟨_, htr⟩, hh, ⟨_, _, _, _, _, hx⟩, hk, ⟨_, hy⟩, hch⟩
        refine s_aload_n C 62 dX6_ask_61 rfl rfl ?_
        refine s_getf C 65 dX6_ask_62 rfl f_X6_10 hZ rfl ?_
        refine s_iload_n C 66 dX6_ask_65 rfl rfl ?_
        refine s_i2c C 67 dX6_ask_66 rfl (isL_nar h32) ?_
        refine s_invV C 70 0 0 [] (sR_rv hsR0) dX6_ask_67 rfl m_X6_195 (c_append hsR0 (isL_nar h32) (by omega)) rfl rfl rfl ⟨by decide, by decide⟩ (Nat.le_of_ble_eq_true rfl) (by omega) (by omega) ?_
        rintro _ M2 ⟨rfl, hsR9, hFa⟩
        dsimp only [Option.toList, List.cons_append, List.nil_append]
        have hs9 : sS G M2 0 s (T, mo, od, ql + 1, upd q ql a, ln, fl, us) := sS.mk (fun y hy => by by_cases e : y = ql; (· rw [e, pk_us, pk_us]); rw [pk_un e, pk_un e]; exact hq9 y (by omega)) (fun y hy => by by_cases e : y = ql; (· rw [e, pk_us]; exact isL_nar h32); rw [pk_un e]; exact hqn9 y hy) hsR9
        have hZ := hFa.at hZ (by first | (simp; done) | (simp; omega) | (rw [mem_TH]; omega) | (rw [mem_TZ]; omega))
        have htr := htr.at hFa (by first | (simp; done) | (simp; omega) | (rw [mem_TH]; omega) | (rw [mem_TZ]; omega)) (by first | (simp; done) | (simp; omega) | (rw [mem_TH]; omega) | (rw [mem_TZ]; omega)) (fun j hj => by first | (simp; done) | (simp; omega) | (rw [mem_TH]; omega) | (rw [mem_TZ]; omega))
        have hh := hh.at hFa (by first | (simp; done) | (simp; omega) | (rw [mem_TH]; omega) | (rw [mem_TZ]; omega)) (by first | (simp; done) | (simp; omega) | (rw [mem_TH]; omega) | (rw [mem_TZ]; omega)) (by first | (simp; done) | (simp; omega) | (rw [mem_TH]; omega) | (rw [mem_TZ]; omega)) (fun t ht => by rw [mem_TH] at ht; first | (simp; done) | (simp; omega))
        have hx := hx.at hFa (by first | (simp; done) | (simp; omega) | (rw [mem_TH]; omega) | (rw [mem_TZ]; omega)) (by first | (simp; done) | (simp; omega) | (rw [mem_TH]; omega) | (rw [mem_TZ]; omega))
        have hk := hk.at hFa (by first | (simp; done) | (simp; omega) | (rw [mem_TH]; omega) | (rw [mem_TZ]; omega)) (by first | (simp; done) | (simp; omega) | (rw [mem_TH]; omega) | (rw [mem_TZ]; omega)) (by first | (simp; done) | (simp; omega) | (rw [mem_TH]; omega) | (rw [mem_TZ]; omega))
        have hy := hy.at hFa (by first | (simp; done) | (simp; omega) | (rw [mem_TH]; omega) | (rw [mem_TZ]; omega)) (by first | (simp; done) | (simp; omega) | (rw [mem_TH]; omega) | (rw [mem_TZ]; omega)) (by first | (simp; done) | (simp; omega) | (rw [mem_TH]; omega) | (rw [mem_TZ]; omega))
        refine s_aload_n C 71 dX6_ask_70 rfl rfl ?_
        have hz6 : zR G M2 z (T, mo, od, ql + 1, upd q ql a, ln, fl, us) (min (c + 1) 6) (hPush (T, mo, od, ql, q, ln, fl, us) hs) n g := ⟨_, _, _, _, _, _, _, s, tr, h, tx, rk, sy, hZ, hs9, ⟨_, htr⟩, hh, ⟨_, _, _, _, _, hx⟩, hk, ⟨_, hy⟩, hch⟩
        refine s_invV C 74 0 0 [] (zR_rv hz6) dX6_ask_71 rfl m_X6_199 (z_results hz6) rfl rfl rfl ⟨by decide, by decide⟩ (Nat.le_of_ble_eq_true rfl) (by omega) (by omega) ?_
        rintro _ M3 ⟨rfl, ⟨_, _, _, _, hz5⟩, hFr⟩
        dsimp only [Option.toList, List.cons_append, List.nil_append]
        exact s_iret C dX6_ask_74 Tr rfl ⟨by rw [if_neg (not_not_intro h32), if_neg hw, if_neg (by omega)], by rw [if_pos hyes, if_pos hyes, if_pos hyes]; exact hz5.R, (hF.tr (hFa.mono (fun t ht => by first | (rw [mem_TH] at ht; rw [mem_TZ]; omega) | (simp at ht; done) | (rw [mem_TZ]; simp at ht; omega)))).tr (hFr.mono (fun t ht => by first | (rw [mem_TH] at ht; rw [mem_TZ]; omega) | (simp at ht; done) | (rw [mem_TZ]; simp at ht; omega)))⟩
      · skip
        have hno : ¬ ((a = nI 32 ∨ isL a = true) ∧ ¬ (a = nI 32 ∧ qeB ql q = false) ∧ ql < 24) := fun q => by have := q.2.2; omega
        refine s_bipush C 49 (-4) dX6_ask_47 rfl (by decide) ?_
        exact s_iret C dX6_ask_49 Tr rfl ⟨by rw [if_neg (not_not_intro h32), if_neg hw, if_pos (by omega)], by rw [if_neg hno, if_neg hno, if_neg hno]; exact ⟨_, _, _, _, _, _, _, s, tr, h, tx, rk, sy, hZ, hs0, ⟨_, htr⟩, hh, ⟨_, _, _, _, _, hx⟩, hk, ⟨_, hy⟩, hch⟩, mZ.rf⟩
    · skip
      refine s_aload_n C 23 dX6_ask_22 rfl rfl ?_
      refine s_getf C 26 dX6_ask_23 rfl f_X6_10 hZ rfl ?_
      refine s_invV C 29 16 352 [] (sR_rv hsR0) dX6_ask_26 rfl m_X6_192 (c_ends hsR0) rfl rfl rfl ⟨by decide, by decide⟩ (Nat.le_of_ble_eq_true rfl) (by omega) (by omega) ?_
      rintro _ M4 ⟨rfl, rfl⟩
      dsimp only [Option.toList, List.cons_append, List.nil_append]
      rw [(qcN_q hq9).1]
      refine s_if_neB C 35 32 dX6_ask_29 (by decide) rfl (fun z29 => ?_) (fun z29 => ?_)
      · skip
        have hw : ¬ (a = nI 32 ∧ qeB ql q = false) := fun w7 => by have w8 := w7.2; rw [show qeB ql q = true from z29] at w8; cases w8
        refine s_aload_n C 36 dX6_ask_35 rfl rfl ?_
        refine s_getf C 39 dX6_ask_36 rfl f_X6_10 hZ rfl ?_
        refine s_getf C 42 dX6_ask_39 rfl f_X6_110 hS rfl ?_
        refine s_bipush C 44 (nI 24) dX6_ask_42 rfl (by decide) ?_
        refine s_icmp_ltN C 50 47 dX6_ask_44 (by decide) rfl (by omega) (by omega) (fun z44 => ?_) (fun z44 => ?_)
        · skip
          have hyes : ((a = nI 32 ∨ isL a = true) ∧ ¬ (a = nI 32 ∧ qeB ql q = false) ∧ ql < 24) := ⟨h32, hw, by omega⟩
          refine s_aload_n C 51 dX6_ask_50 rfl rfl ?_
          refine s_getf C 54 dX6_ask_51 rfl f_X6_22 hZ rfl ?_
          refine s_aload_n C 55 dX6_ask_54 rfl rfl ?_
          refine s_getf C 58 dX6_ask_55 rfl f_X6_10 hZ rfl ?_
          refine s_invV C 61 0 0 [] (hR_rv hh) dX6_ask_58 rfl m_X6_62 (c_save hh hs0 (by omega)) rfl rfl rfl ⟨by decide, by decide⟩ (Nat.le_of_ble_eq_true rfl) (by omega) (by omega) ?_
          rintro _ M5 ⟨rfl, hh9, hs9, hFh⟩
          dsimp only [Option.toList, List.cons_append, List.nil_append]
          have hZ := hFh.at hZ (by first | (simp; done) | (simp; omega) | (rw [mem_TH]; omega) | (rw [mem_TZ]; omega))
          have htr := htr.at hFh (by first | (simp; done) | (simp; omega) | (rw [mem_TH]; omega) | (rw [mem_TZ]; omega)) (by first | (simp; done) | (simp; omega) | (rw [mem_TH]; omega) | (rw [mem_TZ]; omega)) (fun j hj => by first | (simp; done) | (simp; omega) | (rw [mem_TH]; omega) | (rw [mem_TZ]; omega))
          have hx := hx.at hFh (by first | (simp; done) | (simp; omega) | (rw [mem_TH]; omega) | (rw [mem_TZ]; omega)) (by first | (simp; done) | (simp; omega) | (rw [mem_TH]; omega) | (rw [mem_TZ]; omega))
          have hk := hk.at hFh (by first | (simp; done) | (simp; omega) | (rw [mem_TH]; omega) | (rw [mem_TZ]; omega)) (by first | (simp; done) | (simp; omega) | (rw [mem_TH]; omega) | (rw [mem_TZ]; omega)) (by first | (simp; done) | (simp; omega) | (rw [mem_TH]; omega) | (rw [mem_TZ]; omega))
          have hy := hy.at hFh (by first | (simp; done) | (simp; omega) | (rw [mem_TH]; omega) | (rw [mem_TZ]; omega)) (by first | (simp; done) | (simp; omega) | (rw [mem_TH]; omega) | (rw [mem_TZ]; omega)) (by first | (simp; done) | (simp; omega) | (rw [mem_TH]; omega) | (rw [mem_TZ]; omega))
          have hh := hh9
          have hs0 := hs9
          obtain ⟨q9, hq9, hqn9, hsR⟩ := hs0.get
          have hsR0 := hsR
          obtain ⟨la, qa, cap, gg, ad, ifn, hS, hL, hQ, hT, hmo, hod, hql, hA⟩ := hsR
          have hF := hFh.mono (T' := TZ) (fun t ht => by rw [mem_TH] at ht; rw [mem_TZ]; omega)
          have hz7 : zR G M5 z (T, mo, od, ql, q, ln, fl, us) (min (c + 1) 6) (hPush (T, mo, od, ql, q, ln, fl, us) hs) n g := ⟨_, _, _, _, _, _, _, s, tr, h, tx, rk, sy, hZ, hs0, ⟨_, htr⟩, hh, ⟨_, _, _, _, _, hx⟩, hk, ⟨_, hy⟩, hch⟩
          refine s_aload_n C 62 dX6_ask_61 rfl rfl ?_
          refine s_getf C 65 dX6_ask_62 rfl f_X6_10 hZ rfl ?_
          refine s_iload_n C 66 dX6_ask_65 rfl rfl ?_
          refine s_i2c C 67 dX6_ask_66 rfl (isL_nar h32) ?_
          refine s_invV C 70 0 0 [] (sR_rv hsR0) dX6_ask_67 rfl m_X6_195 (c_append hsR0 (isL_nar h32) (by omega)) rfl rfl rfl ⟨by decide, by decide⟩ (Nat.le_of_ble_eq_true rfl) (by omega) (by omega) ?_
          rintro _ M6 ⟨rfl, hsR9, hFa⟩
          dsimp only [Option.toList, List.cons_append, List.nil_append]
          have hs9 : sS G M6 0 s (T, mo, od, ql + 1, upd q ql a, ln, fl, us) := sS.mk (fun y hy => by by_cases e : y = ql; (· rw [e, pk_us, pk_us]); rw [pk_un e, pk_un e]; exact hq9 y (by omega)) (fun y hy => by by_cases e : y = ql; (· rw [e, pk_us]; exact isL_nar h32); rw [pk_un e]; exact hqn9 y hy) hsR9
          have hZ := hFa.at hZ (by first | (simp; done) | (simp; omega) | (rw [mem_TH]; omega) | (rw [mem_TZ]; omega))
          have htr := htr.at hFa (by first | (simp; done) | (simp; omega) | (rw [mem_TH]; omega) | (rw [mem_TZ]; omega)) (by first | (simp; done) | (simp; omega) | (rw [mem_TH]; omega) | (rw [mem_TZ]; omega)) (fun j hj => by first | (simp; done) | (simp; omega) | (rw [mem_TH]; omega) | (rw [mem_TZ]; omega))
          have hh := hh.at hFa (by first | (simp; done) | (simp; omega) | (rw [mem_TH]; omega) | (rw [mem_TZ]; omega)) (by first | (simp; done) | (simp; omega) | (rw [mem_TH]; omega) | (rw [mem_TZ]; omega)) (by first | (simp; done) | (simp; omega) | (rw [mem_TH]; omega) | (rw [mem_TZ]; omega)) (fun t ht => by rw [mem_TH] at ht; first | (simp; done) | (simp; omega))
          have hx := hx.at hFa (by first | (simp; done) | (simp; omega) | (rw [mem_TH]; omega) | (rw [mem_TZ]; omega)) (by first | (simp; done) | (simp; omega) | (rw [mem_TH]; omega) | (rw [mem_TZ]; omega))
          have hk := hk.at hFa (by first | (simp; done) | (simp; omega) | (rw [mem_TH]; omega) | (rw [mem_TZ]; omega)) (by first | (simp; done) | (simp; omega) | (rw [mem_TH]; omega) | (rw [mem_TZ]; omega)) (by first | (simp; done) | (simp; omega) | (rw [mem_TH]; omega) | (rw [mem_TZ]; omega))
          have hy := hy.at hFa (by first | (simp; done) | (simp; omega) | (rw [mem_TH]; omega) | (rw [mem_TZ]; omega)) (by first | (simp; done) | (simp; omega) | (rw [mem_TH]; omega) | (rw [mem_TZ]; omega)) (by first | (simp; done) | (simp; omega) | (rw [mem_TH]; omega) | (rw [mem_TZ]; omega))
          refine s_aload_n C 71 dX6_ask_70 rfl rfl ?_
          have hz6 : zR G M6 z (T, mo, od, ql + 1, upd q ql a, ln, fl, us) (min (c + 1) 6) (hPush (T, mo, od, ql, q, ln, fl, us) hs) n g := ⟨_, _, _, _, _, _, _, s, tr, h, tx, rk, sy, hZ, hs9, ⟨_, htr⟩, hh, ⟨_, _, _, _, _, hx⟩, hk, ⟨_, hy⟩, hch⟩
          refine s_invV C 74 0 0 [] (zR_rv hz6) dX6_ask_71 rfl m_X6_199 (z_results hz6) rfl rfl rfl ⟨by decide, by decide⟩ (Nat.le_of_ble_eq_true rfl) (by omega) (by omega) ?_
          rintro _ M7 ⟨rfl, ⟨_, _, _, _, hz5⟩, hFr⟩
          dsimp only [Option.toList, List.cons_append, List.nil_append]
          exact s_iret C dX6_ask_74 Tr rfl ⟨by rw [if_neg (not_not_intro h32), if_neg hw, if_neg (by omega)], by rw [if_pos hyes, if_pos hyes, if_pos hyes]; exact hz5.R, (hF.tr (hFa.mono (fun t ht => by first | (rw [mem_TH] at ht; rw [mem_TZ]; omega) | (simp at ht; done) | (rw [mem_TZ]; simp at ht; omega)))).tr (hFr.mono (fun t ht => by first | (rw [mem_TH] at ht; rw [mem_TZ]; omega) | (simp at ht; done) | (rw [mem_TZ]; simp at ht; omega)))⟩
        · skip
          have hno : ¬ ((a = nI 32 ∨ isL a = true) ∧ ¬ (a = nI 32 ∧ qeB ql q = false) ∧ ql < 24) := fun q => by have := q.2.2; omega
          refine s_bipush C 49 (-4) dX6_ask_47 rfl (by decide) ?_
          exact s_iret C dX6_ask_49 Tr rfl ⟨by rw [if_neg (not_not_intro h32), if_neg hw, if_pos (by omega)], by rw [if_neg hno, if_neg hno, if_neg hno]; exact ⟨_, _, _, _, _, _, _, s, tr, h, tx, rk, sy, hZ, hs0, ⟨_, htr⟩, hh, ⟨_, _, _, _, _, hx⟩, hk, ⟨_, hy⟩, hch⟩, mZ.rf⟩
      · skip
        have hw : a = nI 32 ∧ qeB ql q = false := ⟨by first | exact z19 | exact Classical.not_not.mp z19, z29⟩
        have hv := not_not_intro h32
        have hno : ¬ ((a = nI 32 ∨ isL a = true) ∧ ¬ (a = nI 32 ∧ qeB ql q = false) ∧ ql < 24) := fun q => q.2.1 hw
        refine s_bipush C 34 (-3) dX6_ask_32 rfl (by decide) ?_
        exact s_iret C dX6_ask_34 Tr rfl ⟨by rw [if_neg hv, if_pos hw], by rw [if_neg hno, if_neg hno, if_neg hno]; exact ⟨_, _, _, _, _, _, _, s, tr, h, tx, rk, sy, hZ, hs0, ⟨_, htr⟩, hh, ⟨_, _, _, _, _, hx⟩, hk, ⟨_, hy⟩, hch⟩, mZ.rf⟩
  · skip
    refine s_iload_n C 7 dX6_ask_6 rfl rfl ?_
    refine s_invS C 10 16 352 [] dX6_ask_7 rfl m_X6_189 (c_isLetter) rfl rfl rfl ⟨by decide, by decide⟩ (Nat.le_of_ble_eq_true rfl) (by omega) (by omega) ?_
    rintro _ M8 ⟨rfl, rfl⟩
    dsimp only [Option.toList, List.cons_append, List.nil_append]
    refine s_if_neB C 16 13 dX6_ask_10 (by decide) rfl (fun z10 => ?_) (fun z10 => ?_)
    · skip
      have h32 : a = nI 32 ∨ isL a = true := Or.inr z10
      refine s_iload_n C 17 dX6_ask_16 rfl rfl ?_
      refine s_bipush C 19 (nI 32) dX6_ask_17 rfl (by decide) ?_
      refine s_icmp_ne C 35 22 dX6_ask_19 (by decide) rfl (fun z19 => ?_) (fun z19 => ?_)
      · skip
        have hw : ¬ (a = nI 32 ∧ qeB ql q = false) := fun w7 => z19 w7.1
        refine s_aload_n C 36 dX6_ask_35 rfl rfl ?_
        refine s_getf C 39 dX6_ask_36 rfl f_X6_10 hZ rfl ?_
        refine s_getf C 42 dX6_ask_39 rfl f_X6_110 hS rfl ?_
        refine s_bipush C 44 (nI 24) dX6_ask_42 rfl (by decide) ?_
        refine s_icmp_ltN C 50 47 dX6_ask_44 (by decide) rfl (by omega) (by omega) (fun z44 => ?_) (fun z44 => ?_)
        · skip
          have hyes : ((a = nI 32 ∨ isL a = true) ∧ ¬ (a = nI 32 ∧ qeB ql q = false) ∧ ql < 24) := ⟨h32, hw, by omega⟩
          refine s_aload_n C 51 dX6_ask_50 rfl rfl ?_
          refine s_getf C 54 dX6_ask_51 rfl f_X6_22 hZ rfl ?_
          refine s_aload_n C 55 dX6_ask_54 rfl rfl ?_
          refine s_getf C 58 dX6_ask_55 rfl f_X6_10 hZ rfl ?_
          refine s_invV C 61 0 0 [] (hR_rv hh) dX6_ask_58 rfl m_X6_62 (c_save hh hs0 (by omega)) rfl rfl rfl ⟨by decide, by decide⟩ (Nat.le_of_ble_eq_true rfl) (by omega) (by omega) ?_
          rintro _ M9 ⟨rfl, hh9, hs9, hFh⟩
          dsimp only [Option.toList, List.cons_append, List.nil_append]
          have hZ := hFh.at hZ (by first | (simp; done) | (simp; omega) | (rw [mem_TH]; omega) | (rw [mem_TZ]; omega))
          have htr := htr.at hFh (by first | (simp; done) | (simp; omega) | (rw [mem_TH]; omega) | (rw [mem_TZ]; omega)) (by first | (simp; done) | (simp; omega) | (rw [mem_TH]; omega) | (rw [mem_TZ]; omega)) (fun j hj => by first | (simp; done) | (simp; omega) | (rw [mem_TH]; omega) | (rw [mem_TZ]; omega))
          have hx := hx.at hFh (by first | (simp; done) | (simp; omega) | (rw [mem_TH]; omega) | (rw [mem_TZ]; omega)) (by first | (simp; done) | (simp; omega) | (rw [mem_TH]; omega) | (rw [mem_TZ]; omega))
          have hk := hk.at hFh (by first | (simp; done) | (simp; omega) | (rw [mem_TH]; omega) | (rw [mem_TZ]; omega)) (by first | (simp; done) | (simp; omega) | (rw [mem_TH]; omega) | (rw [mem_TZ]; omega)) (by first | (simp; done) | (simp; omega) | (rw [mem_TH]; omega) | (rw [mem_TZ]; omega))
          have hy := hy.at hFh (by first | (simp; done) | (simp; omega) | (rw [mem_TH]; omega) | (rw [mem_TZ]; omega)) (by first | (simp; done) | (simp; omega) | (rw [mem_TH]; omega) | (rw [mem_TZ]; omega)) (by first | (simp; done) | (simp; omega) | (rw [mem_TH]; omega) | (rw [mem_TZ]; omega))
          have hh := hh9
          have hs0 := hs9
          obtain ⟨q9, hq9, hqn9, hsR⟩ := hs0.get
          have hsR0 := hsR
          obtain ⟨la, qa, cap, gg, ad, ifn, hS, hL, hQ, hT, hmo, hod, hql, hA⟩ := hsR
          have hF := hFh.mono (T' := TZ) (fun t ht => by rw [mem_TH] at ht; rw [mem_TZ]; omega)
          have hz7 : zR G M9 z (T, mo, od, ql, q, ln, fl, us) (min (c + 1) 6) (hPush (T, mo, od, ql, q, ln, fl, us) hs) n g := ⟨_, _, _, _, _, _, _, s, tr, h, tx, rk, sy, hZ, hs0, ⟨_, htr⟩, hh, ⟨_, _, _, _, _, hx⟩, hk, ⟨_, hy⟩, hch⟩
          refine s_aload_n C 62 dX6_ask_61 rfl rfl ?_
          refine s_getf C 65 dX6_ask_62 rfl f_X6_10 hZ rfl ?_
          refine s_iload_n C 66 dX6_ask_65 rfl rfl ?_
          refine s_i2c C 67 dX6_ask_66 rfl (isL_nar h32) ?_
          refine s_invV C 70 0 0 [] (sR_rv hsR0) dX6_ask_67 rfl m_X6_195 (c_append hsR0 (isL_nar h32) (by omega)) rfl rfl rfl ⟨by decide, by decide⟩ (Nat.le_of_ble_eq_true rfl) (by omega) (by omega) ?_
          rintro _ M10 ⟨rfl, hsR9, hFa⟩
          dsimp only [Option.toList, List.cons_append, List.nil_append]
          have hs9 : sS G M10 0 s (T, mo, od, ql + 1, upd q ql a, ln, fl, us) := sS.mk (fun y hy => by by_cases e : y = ql; (· rw [e, pk_us, pk_us]); rw [pk_un e, pk_un e]; exact hq9 y (by omega)) (fun y hy => by by_cases e : y = ql; (· rw [e, pk_us]; exact isL_nar h32); rw [pk_un e]; exact hqn9 y hy) hsR9
          have hZ := hFa.at hZ (by first | (simp; done) | (simp; omega) | (rw [mem_TH]; omega) | (rw [mem_TZ]; omega))
          have htr := htr.at hFa (by first | (simp; done) | (simp; omega) | (rw [mem_TH]; omega) | (rw [mem_TZ]; omega)) (by first | (simp; done) | (simp; omega) | (rw [mem_TH]; omega) | (rw [mem_TZ]; omega)) (fun j hj => by first | (simp; done) | (simp; omega) | (rw [mem_TH]; omega) | (rw [mem_TZ]; omega))
          have hh := hh.at hFa (by first | (simp; done) | (simp; omega) | (rw [mem_TH]; omega) | (rw [mem_TZ]; omega)) (by first | (simp; done) | (simp; omega) | (rw [mem_TH]; omega) | (rw [mem_TZ]; omega)) (by first | (simp; done) | (simp; omega) | (rw [mem_TH]; omega) | (rw [mem_TZ]; omega)) (fun t ht => by rw [mem_TH] at ht; first | (simp; done) | (simp; omega))
          have hx := hx.at hFa (by first | (simp; done) | (simp; omega) | (rw [mem_TH]; omega) | (rw [mem_TZ]; omega)) (by first | (simp; done) | (simp; omega) | (rw [mem_TH]; omega) | (rw [mem_TZ]; omega))
          have hk := hk.at hFa (by first | (simp; done) | (simp; omega) | (rw [mem_TH]; omega) | (rw [mem_TZ]; omega)) (by first | (simp; done) | (simp; omega) | (rw [mem_TH]; omega) | (rw [mem_TZ]; omega)) (by first | (simp; done) | (simp; omega) | (rw [mem_TH]; omega) | (rw [mem_TZ]; omega))
          have hy := hy.at hFa (by first | (simp; done) | (simp; omega) | (rw [mem_TH]; omega) | (rw [mem_TZ]; omega)) (by first | (simp; done) | (simp; omega) | (rw [mem_TH]; omega) | (rw [mem_TZ]; omega)) (by first | (simp; done) | (simp; omega) | (rw [mem_TH]; omega) | (rw [mem_TZ]; omega))
          refine s_aload_n C 71 dX6_ask_70 rfl rfl ?_
          have hz6 : zR G M10 z (T, mo, od, ql + 1, upd q ql a, ln, fl, us) (min (c + 1) 6) (hPush (T, mo, od, ql, q, ln, fl, us) hs) n g := ⟨_, _, _, _, _, _, _, s, tr, h, tx, rk, sy, hZ, hs9, ⟨_, htr⟩, hh, ⟨_, _, _, _, _, hx⟩, hk, ⟨_, hy⟩, hch⟩
          refine s_invV C 74 0 0 [] (zR_rv hz6) dX6_ask_71 rfl m_X6_199 (z_results hz6) rfl rfl rfl ⟨by decide, by decide⟩ (Nat.le_of_ble_eq_true rfl) (by omega) (by omega) ?_
          rintro _ M11 ⟨rfl, ⟨_, _, _, _, hz5⟩, hFr⟩
          dsimp only [Option.toList, List.cons_append, List.nil_append]
          exact s_iret C dX6_ask_74 Tr rfl ⟨by rw [if_neg (not_not_intro h32), if_neg hw, if_neg (by omega)], by rw [if_pos hyes, if_pos hyes, if_pos hyes]; exact hz5.R, (hF.tr (hFa.mono (fun t ht => by first | (rw [mem_TH] at ht; rw [mem_TZ]; omega) | (simp at ht; done) | (rw [mem_TZ]; simp at ht; omega)))).tr (hFr.mono (fun t ht => by first | (rw [mem_TH] at ht; rw [mem_TZ]; omega) | (simp at ht; done) | (rw [mem_TZ]; simp at ht; omega)))⟩
        · skip
          have hno : ¬ ((a = nI 32 ∨ isL a = true) ∧ ¬ (a = nI 32 ∧ qeB ql q = false) ∧ ql < 24) := fun q => by have := q.2.2; omega
          refine s_bipush C 49 (-4) dX6_ask_47 rfl (by decide) ?_
          exact s_iret C dX6_ask_49 Tr rfl ⟨by rw [if_neg (not_not_intro h32), if_neg hw, if_pos (by omega)], by rw [if_neg hno, if_neg hno, if_neg hno]; exact ⟨_, _, _, _, _, _, _, s, tr, h, tx, rk, sy, hZ, hs0, ⟨_, htr⟩, hh, ⟨_, _, _, _, _, hx⟩, hk, ⟨_, hy⟩, hch⟩, mZ.rf⟩
      · skip
        refine s_aload_n C 23 dX6_ask_22 rfl rfl ?_
        refine s_getf C 26 dX6_ask_23 rfl f_X6_10 hZ rfl ?_
        refine s_invV C 29 16 352 [] (sR_rv hsR0) dX6_ask_26 rfl m_X6_192 (c_ends hsR0) rfl rfl rfl ⟨by decide, by decide⟩ (Nat.le_of_ble_eq_true rfl) (by omega) (by omega) ?_
        rintro _ M12 ⟨rfl, rfl⟩
        dsimp only [Option.toList, List.cons_append, List.nil_append]
        rw [(qcN_q hq9).1]
        refine s_if_neB C 35 32 dX6_ask_29 (by decide) rfl (fun z29 => ?_) (fun z29 => ?_)
        · skip
          have hw : ¬ (a = nI 32 ∧ qeB ql q = false) := fun w7 => by have w8 := w7.2; rw [show qeB ql q = true from z29] at w8; cases w8
          refine s_aload_n C 36 dX6_ask_35 rfl rfl ?_
          refine s_getf C 39 dX6_ask_36 rfl f_X6_10 hZ rfl ?_
          refine s_getf C 42 dX6_ask_39 rfl f_X6_110 hS rfl ?_
          refine s_bipush C 44 (nI 24) dX6_ask_42 rfl (by decide) ?_
          refine s_icmp_ltN C 50 47 dX6_ask_44 (by decide) rfl (by omega) (by omega) (fun z44 => ?_) (fun z44 => ?_)
          · skip
            have hyes : ((a = nI 32 ∨ isL a = true) ∧ ¬ (a = nI 32 ∧ qeB ql q = false) ∧ ql < 24) := ⟨h32, hw, by omega⟩
            refine s_aload_n C 51 dX6_ask_50 rfl rfl ?_
            refine s_getf C 54 dX6_ask_51 rfl f_X6_22 hZ rfl ?_
            refine s_aload_n C 55 dX6_ask_54 rfl rfl ?_
            refine s_getf C 58 dX6_ask_55 rfl f_X6_10 hZ rfl ?_
            refine s_invV C 61 0 0 [] (hR_rv hh) dX6_ask_58 rfl m_X6_62 (c_save hh hs0 (by omega)) rfl rfl rfl ⟨by decide, by decide⟩ (Nat.le_of_ble_eq_true rfl) (by omega) (by omega) ?_
            rintro _ M13 ⟨rfl, hh9, hs9, hFh⟩
            dsimp only [Option.toList, List.cons_append, List.nil_append]
            have hZ := hFh.at hZ (by first | (simp; done) | (simp; omega) | (rw [mem_TH]; omega) | (rw [mem_TZ]; omega))
            have htr := htr.at hFh (by first | (simp; done) | (simp; omega) | (rw [mem_TH]; omega) | (rw [mem_TZ]; omega)) (by first | (simp; done) | (simp; omega) | (rw [mem_TH]; omega) | (rw [mem_TZ]; omega)) (fun j hj => by first | (simp; done) | (simp; omega) | (rw [mem_TH]; omega) | (rw [mem_TZ]; omega))
            have hx := hx.at hFh (by first | (simp; done) | (simp; omega) | (rw [mem_TH]; omega) | (rw [mem_TZ]; omega)) (by first | (simp; done) | (simp; omega) | (rw [mem_TH]; omega) | (rw [mem_TZ]; omega))
            have hk := hk.at hFh (by first | (simp; done) | (simp; omega) | (rw [mem_TH]; omega) | (rw [mem_TZ]; omega)) (by first | (simp; done) | (simp; omega) | (rw [mem_TH]; omega) | (rw [mem_TZ]; omega)) (by first | (simp; done) | (simp; omega) | (rw [mem_TH]; omega) | (rw [mem_TZ]; omega))
            have hy := hy.at hFh (by first | (simp; done) | (simp; omega) | (rw [mem_TH]; omega) | (rw [mem_TZ]; omega)) (by first | (simp; done) | (simp; omega) | (rw [mem_TH]; omega) | (rw [mem_TZ]; omega)) (by first | (simp; done) | (simp; omega) | (rw [mem_TH]; omega) | (rw [mem_TZ]; omega))
            have hh := hh9
            have hs0 := hs9
            obtain ⟨q9, hq9, hqn9, hsR⟩ := hs0.get
            have hsR0 := hsR
            obtain ⟨la, qa, cap, gg, ad, ifn, hS, hL, hQ, hT, hmo, hod, hql, hA⟩ := hsR
            have hF := hFh.mono (T' := TZ) (fun t ht => by rw [mem_TH] at ht; rw [mem_TZ]; omega)
            have hz7 : zR G M13 z (T, mo, od, ql, q, ln, fl, us) (min (c + 1) 6) (hPush (T, mo, od, ql, q, ln, fl, us) hs) n g := ⟨_, _, _, _, _, _, _, s, tr, h, tx, rk, sy, hZ, hs0, ⟨_, htr⟩, hh, ⟨_, _, _, _, _, hx⟩, hk, ⟨_, hy⟩, hch⟩
            refine s_aload_n C 62 dX6_ask_61 rfl rfl ?_
            refine s_getf C 65 dX6_ask_62 rfl f_X6_10 hZ rfl ?_
            refine s_iload_n C 66 dX6_ask_65 rfl rfl ?_
            refine s_i2c C 67 dX6_ask_66 rfl (isL_nar h32) ?_
            refine s_invV C 70 0 0 [] (sR_rv hsR0) dX6_ask_67 rfl m_X6_195 (c_append hsR0 (isL_nar h32) (by omega)) rfl rfl rfl ⟨by decide, by decide⟩ (Nat.le_of_ble_eq_true rfl) (by omega) (by omega) ?_
            rintro _ M14 ⟨rfl, hsR9, hFa⟩
            dsimp only [Option.toList, List.cons_append, List.nil_append]
            have hs9 : sS G M14 0 s (T, mo, od, ql + 1, upd q ql a, ln, fl, us) := sS.mk (fun y hy => by by_cases e : y = ql; (· rw [e, pk_us, pk_us]); rw [pk_un e, pk_un e]; exact hq9 y (by omega)) (fun y hy => by by_cases e : y = ql; (· rw [e, pk_us]; exact isL_nar h32); rw [pk_un e]; exact hqn9 y hy) hsR9
            have hZ := hFa.at hZ (by first | (simp; done) | (simp; omega) | (rw [mem_TH]; omega) | (rw [mem_TZ]; omega))
            have htr := htr.at hFa (by first | (simp; done) | (simp; omega) | (rw [mem_TH]; omega) | (rw [mem_TZ]; omega)) (by first | (simp; done) | (simp; omega) | (rw [mem_TH]; omega) | (rw [mem_TZ]; omega)) (fun j hj => by first | (simp; done) | (simp; omega) | (rw [mem_TH]; omega) | (rw [mem_TZ]; omega))
            have hh := hh.at hFa (by first | (simp; done) | (simp; omega) | (rw [mem_TH]; omega) | (rw [mem_TZ]; omega)) (by first | (simp; done) | (simp; omega) | (rw [mem_TH]; omega) | (rw [mem_TZ]; omega)) (by first | (simp; done) | (simp; omega) | (rw [mem_TH]; omega) | (rw [mem_TZ]; omega)) (fun t ht => by rw [mem_TH] at ht; first | (simp; done) | (simp; omega))
            have hx := hx.at hFa (by first | (simp; done) | (simp; omega) | (rw [mem_TH]; omega) | (rw [mem_TZ]; omega)) (by first | (simp; done) | (simp; omega) | (rw [mem_TH]; omega) | (rw [mem_TZ]; omega))
            have hk := hk.at hFa (by first | (simp; done) | (simp; omega) | (rw [mem_TH]; omega) | (rw [mem_TZ]; omega)) (by first | (simp; done) | (simp; omega) | (rw [mem_TH]; omega) | (rw [mem_TZ]; omega)) (by first | (simp; done) | (simp; omega) | (rw [mem_TH]; omega) | (rw [mem_TZ]; omega))
            have hy := hy.at hFa (by first | (simp; done) | (simp; omega) | (rw [mem_TH]; omega) | (rw [mem_TZ]; omega)) (by first | (simp; done) | (simp; omega) | (rw [mem_TH]; omega) | (rw [mem_TZ]; omega)) (by first | (simp; done) | (simp; omega) | (rw [mem_TH]; omega) | (rw [mem_TZ]; omega))
            refine s_aload_n C 71 dX6_ask_70 rfl rfl ?_
            have hz6 : zR G M14 z (T, mo, od, ql + 1, upd q ql a, ln, fl, us) (min (c + 1) 6) (hPush (T, mo, od, ql, q, ln, fl, us) hs) n g := ⟨_, _, _, _, _, _, _, s, tr, h, tx, rk, sy, hZ, hs9, ⟨_, htr⟩, hh, ⟨_, _, _, _, _, hx⟩, hk, ⟨_, hy⟩, hch⟩
            refine s_invV C 74 0 0 [] (zR_rv hz6) dX6_ask_71 rfl m_X6_199 (z_results hz6) rfl rfl rfl ⟨by decide, by decide⟩ (Nat.le_of_ble_eq_true rfl) (by omega) (by omega) ?_
            rintro _ M15 ⟨rfl, ⟨_, _, _, _, hz5⟩, hFr⟩
            dsimp only [Option.toList, List.cons_append, List.nil_append]
            exact s_iret C dX6_ask_74 Tr rfl ⟨by rw [if_neg (not_not_intro h32), if_neg hw, if_neg (by omega)], by rw [if_pos hyes, if_pos hyes, if_pos hyes]; exact hz5.R, (hF.tr (hFa.mono (fun t ht => by first | (rw [mem_TH] at ht; rw [mem_TZ]; omega) | (simp at ht; done) | (rw [mem_TZ]; simp at ht; omega)))).tr (hFr.mono (fun t ht => by first | (rw [mem_TH] at ht; rw [mem_TZ]; omega) | (simp at ht; done) | (rw [mem_TZ]; simp at ht; omega)))⟩
          · skip
            have hno : ¬ ((a = nI 32 ∨ isL a = true) ∧ ¬ (a = nI 32 ∧ qeB ql q = false) ∧ ql < 24) := fun q => by have := q.2.2; omega
            refine s_bipush C 49 (-4) dX6_ask_47 rfl (by decide) ?_
            exact s_iret C dX6_ask_49 Tr rfl ⟨by rw [if_neg (not_not_intro h32), if_neg hw, if_pos (by omega)], by rw [if_neg hno, if_neg hno, if_neg hno]; exact ⟨_, _, _, _, _, _, _, s, tr, h, tx, rk, sy, hZ, hs0, ⟨_, htr⟩, hh, ⟨_, _, _, _, _, hx⟩, hk, ⟨_, hy⟩, hch⟩, mZ.rf⟩
        · skip
          have hw : a = nI 32 ∧ qeB ql q = false := ⟨by first | exact z19 | exact Classical.not_not.mp z19, z29⟩
          have hv := not_not_intro h32
          have hno : ¬ ((a = nI 32 ∨ isL a = true) ∧ ¬ (a = nI 32 ∧ qeB ql q = false) ∧ ql < 24) := fun q => q.2.1 hw
          refine s_bipush C 34 (-3) dX6_ask_32 rfl (by decide) ?_
          exact s_iret C dX6_ask_34 Tr rfl ⟨by rw [if_neg hv, if_pos hw], by rw [if_neg hno, if_neg hno, if_neg hno]; exact ⟨_, _, _, _, _, _, _, s, tr, h, tx, rk, sy, hZ, hs0, ⟨_, htr⟩, hh, ⟨_, _, _, _, _, hx⟩, hk, ⟨_, hy⟩, hch⟩, mZ.rf⟩
    · skip
      have hv : ¬ (a = nI 32 ∨ isL a = true) := fun q => by rcases q with q | q; (· exact z3 q); rw [z10] at q; cases q
      have hno : ¬ ((a = nI 32 ∨ isL a = true) ∧ ¬ (a = nI 32 ∧ qeB ql q = false) ∧ ql < 24) := fun q => hv q.1
      refine s_bipush C 15 (-2) dX6_ask_13 rfl (by decide) ?_
      exact s_iret C dX6_ask_15 Tr rfl ⟨by rw [if_pos hv], by rw [if_neg hno, if_neg hno, if_neg hno]; exact ⟨_, _, _, _, _, _, _, s, tr, h, tx, rk, sy, hZ, hs0, ⟨_, htr⟩, hh, ⟨_, _, _, _, _, hx⟩, hk, ⟨_, hy⟩, hch⟩, mZ.rf⟩

set_option maxRecDepth 100000 in
set_option maxHeartbeats 4000000 in
theorem z_pickIf {G : mG} {M : mM} {z T mo od ql c n : Nat} {q : Nat → Int32} {ln : Nat → Nat} {fl : Nat → Nat → Int32} {us : Nat → Int32} {hs : Nat → mSt} {g : Nat → Int32} (hz : zR G M z (T, mo, od, ql, q, ln, fl, us) c hs n g) {a : Int32} : CC G iX6_pickIfThere 1 3 [.ref z, .int a] M (fun r M1 => r = some (.int (if isIx a (rkN T mo od ql q ln fl us T).1 = true then nI ((rkN T mo od ql q ln fl us T).2 a.toNatClampNeg) else -1)) ∧ zR G M1 z (if isIx a (rkN T mo od ql q ln fl us T).1 = true then (T, mo, od, 0, q, ln, fl, adF us ((rkN T mo od ql q ln fl us T).2 a.toNatClampNeg) (us ((rkN T mo od ql q ln fl us T).2 a.toNatClampNeg) + nI 1)) else (T, mo, od, ql, q, ln, fl, us)) c hs n g ∧ mZ [30, 31, 32, 100 + 10 * 0, 102 + 10 * 0, 103 + 10 * 0] M M1) := by
  refine CC.of rfl (Nat.le_of_ble_eq_true rfl) rfl (fun X C Tr => ?_)
  show V X 1 3 0 [some (.ref z), some (.int a), none] [] M
  obtain ⟨rc, rr, rp, y1, y2, y3, y4, s, tr, h, tx, rk, sy, hZ, hs0, ⟨yt, htr⟩, hh, ⟨p, cmd, val, fr, to, hx⟩, hk, ⟨yw, hy⟩, hch⟩ := hz
  obtain ⟨q9, hq9, hqn9, hsR⟩ := hs0.get
  have hsR0 := hsR
  obtain ⟨la, qa, cap, gg, ad, ifn, hS, hL, hQ, hT, hmo, hod, hql, hA⟩ := hsR
  refine s_aload_n C 1 dX6_pickIfThere_0 rfl rfl ?_
  refine s_getf C 4 dX6_pickIfThere_1 rfl f_X6_36 hZ rfl ?_
  refine s_aload_n C 5 dX6_pickIfThere_4 rfl rfl ?_
  refine s_getf C 8 dX6_pickIfThere_5 rfl f_X6_10 hZ rfl ?_
  refine s_invV C 11 1 3 [] (kR_rv hk) dX6_pickIfThere_8 rfl m_X6_205 (c_rank hsR0 hk) rfl rfl rfl ⟨by decide, by decide⟩ (Nat.le_of_ble_eq_true rfl) (by omega) (by omega) ?_
  rintro _ M1 ⟨rfl, hk9, hFk⟩
  dsimp only [Option.toList, List.cons_append, List.nil_append]
  have hZ := hFk.at hZ (by first | (simp; done) | (simp; omega) | (rw [mem_TH]; omega) | (rw [mem_TZ]; omega))
  have hs0 := hs0.at hFk (by first | (simp; done) | (simp; omega) | (rw [mem_TH]; omega) | (rw [mem_TZ]; omega)) (by first | (simp; done) | (simp; omega) | (rw [mem_TH]; omega) | (rw [mem_TZ]; omega)) (fun j hj => by first | (simp; done) | (simp; omega) | (rw [mem_TH]; omega) | (rw [mem_TZ]; omega))
  have htr := htr.at hFk (by first | (simp; done) | (simp; omega) | (rw [mem_TH]; omega) | (rw [mem_TZ]; omega)) (by first | (simp; done) | (simp; omega) | (rw [mem_TH]; omega) | (rw [mem_TZ]; omega)) (fun j hj => by first | (simp; done) | (simp; omega) | (rw [mem_TH]; omega) | (rw [mem_TZ]; omega))
  have hh := hh.at hFk (by first | (simp; done) | (simp; omega) | (rw [mem_TH]; omega) | (rw [mem_TZ]; omega)) (by first | (simp; done) | (simp; omega) | (rw [mem_TH]; omega) | (rw [mem_TZ]; omega)) (by first | (simp; done) | (simp; omega) | (rw [mem_TH]; omega) | (rw [mem_TZ]; omega)) (fun t ht => by rw [mem_TH] at ht; first | (simp; done) | (simp; omega))
  have hx := hx.at hFk (by first | (simp; done) | (simp; omega) | (rw [mem_TH]; omega) | (rw [mem_TZ]; omega)) (by first | (simp; done) | (simp; omega) | (rw [mem_TH]; omega) | (rw [mem_TZ]; omega))
  have hy := hy.at hFk (by first | (simp; done) | (simp; omega) | (rw [mem_TH]; omega) | (rw [mem_TZ]; omega)) (by first | (simp; done) | (simp; omega) | (rw [mem_TH]; omega) | (rw [mem_TZ]; omega)) (by first | (simp; done) | (simp; omega) | (rw [mem_TH]; omega) | (rw [mem_TZ]; omega))
  rw [rkN_q hq9, show plN mo ql q9 ln fl = plN mo ql q ln fl from funext (fun _ => plN_q hq9)] at hk9
  have hk := hk9
  have hkk := hk9
  obtain ⟨ra, pa, rf, pf, hRk, hRa, hPa, hc16, hrk⟩ := hkk
  refine s_aload_n C 12 dX6_pickIfThere_11 rfl rfl ?_
  refine s_getf C 15 dX6_pickIfThere_12 rfl f_X6_36 hZ rfl ?_
  refine s_iload_n C 16 dX6_pickIfThere_15 rfl rfl ?_
  refine s_invV C 19 1 3 [] (kR_rv hk) dX6_pickIfThere_16 rfl m_X6_211 (c_rhas (x := a) hk) rfl rfl rfl ⟨by decide, by decide⟩ (Nat.le_of_ble_eq_true rfl) (by omega) (by omega) ?_
  rintro _ M2 ⟨rfl, rfl⟩
  dsimp only [Option.toList, List.cons_append, List.nil_append]
  refine s_if_neB C 24 22 dX6_pickIfThere_19 (by decide) rfl (fun z19 => ?_) (fun z19 => ?_)
  · skip
    obtain ⟨j, hj9, hqj⟩ := isIx_of (x := a) (c := (rkN T mo od ql q ln fl us T).1) z19 (by omega)
    subst hqj
    refine s_aload_n C 25 dX6_pickIfThere_24 rfl rfl ?_
    refine s_getf C 28 dX6_pickIfThere_25 rfl f_X6_36 hZ rfl ?_
    refine s_iload_n C 29 dX6_pickIfThere_28 rfl rfl ?_
    refine s_invV C 32 1 3 [] (kR_rv hk) dX6_pickIfThere_29 rfl m_X6_212 (c_titleAt hk hj9) rfl rfl rfl ⟨by decide, by decide⟩ (Nat.le_of_ble_eq_true rfl) (by omega) (by omega) ?_
    rintro _ M3 ⟨rfl, rfl⟩
    dsimp only [Option.toList, List.cons_append, List.nil_append]
    have hrkI := (rkS_in (B := fun x y => cbB od x ((pmO mo ql q (ln x) (fl x)).getD 0) y ((pmO mo ql q (ln y) (fl y)).getD 0) ln fl us) (pm := fun x => pmO mo ql q (ln x) (fl x)) T).2 j hj9
    obtain ⟨t, hqt⟩ : ∃ t, t = ((rkN T mo od ql q ln fl us T).2 j) := ⟨_, rfl⟩
    have ht9 : t < T := by rw [hqt]; exact hrkI.1
    rw [← hqt]
    have hsR0 := hsR0.at hFk (by simp) (by simp) (by simp) (by simp) (by simp) (by simp)
    have hsR1 := hsR0
    obtain ⟨la, qa, cap, gg, ad, ifn, hS, hL, hQ, hT, hmo, hod, hql, hA⟩ := hsR1
    refine s_istore_n C 33 dX6_pickIfThere_32 rfl rfl rfl ?_
    dsimp only [List.set]
    refine s_aload_n C 34 dX6_pickIfThere_33 rfl rfl ?_
    refine s_getf C 37 dX6_pickIfThere_34 rfl f_X6_10 hZ rfl ?_
    refine s_iload_n C 38 dX6_pickIfThere_37 rfl rfl ?_
    refine s_invV C 41 1 3 [] (sR_rv hsR0) dX6_pickIfThere_38 rfl m_X6_132 (c_has (x := nI t) hsR0) rfl rfl rfl ⟨by decide, by decide⟩ (Nat.le_of_ble_eq_true rfl) (by omega) (by omega) ?_
    rintro _ M4 ⟨rfl, rfl⟩
    dsimp only [Option.toList, List.cons_append, List.nil_append]
    refine s_if_neB C 46 44 dX6_pickIfThere_41 (by decide) rfl (fun z41 => ?_) (fun z41 => ?_)
    · skip
      refine s_aload_n C 47 dX6_pickIfThere_46 rfl rfl ?_
      refine s_getf C 50 dX6_pickIfThere_47 rfl f_X6_10 hZ rfl ?_
      refine s_getf C 53 dX6_pickIfThere_50 rfl f_X6_119 hS rfl ?_
      refine s_iload_n C 54 dX6_pickIfThere_53 rfl rfl ?_
      refine s_aload_n C 55 dX6_pickIfThere_54 rfl rfl ?_
      refine s_getf C 58 dX6_pickIfThere_55 rfl f_X6_10 hZ rfl ?_
      refine s_getf C 61 dX6_pickIfThere_58 rfl f_X6_119 hS rfl ?_
      refine s_iload_n C 62 dX6_pickIfThere_61 rfl rfl ?_
      refine s_invV C 65 1 3 [.int (nI t), .ref la] (lR_rv hL) dX6_pickIfThere_62 rfl m_X6_139 (c_get (i := t) hL (by omega) (hA t (by omega)).1) rfl rfl rfl ⟨by decide, by decide⟩ (Nat.le_of_ble_eq_true rfl) (by omega) (by omega) ?_
      rintro _ M5 ⟨rfl, rfl⟩
      dsimp only [Option.toList, List.cons_append, List.nil_append]
      obtain ⟨ld, id, hOd, hLd, hId⟩ := (hA t (by omega)).2.1
      have hVd := (hA t (by omega)).2.2.2
      have hnd : ln t ≤ 24 := hVd.2.1
      have hcd := cnB_le (f := fl t) (ln t)
      refine s_castT C 68 dX6_pickIfThere_65 rfl hOd rfl k_X6_142 ?_
      refine s_invV C 71 0 0 [.int (nI t), .ref la] (mRv_of hOd rfl) dX6_pickIfThere_68 rfl m_X6_218 (c_usedOnceMore hOd hLd hId) rfl rfl rfl ⟨by decide, by decide⟩ (Nat.le_of_ble_eq_true rfl) (by omega) (by omega) ?_
      rintro _ M6 ⟨b, rfl, hnb, hTb, hFu⟩
      dsimp only [Option.toList, List.cons_append, List.nil_append]
      have hZ := hFu.at hZ (by first | (simp; done) | (simp; omega) | (rw [mem_TH]; omega) | (rw [mem_TZ]; omega))
      have hS := hFu.at hS (by first | (simp; done) | (simp; omega) | (rw [mem_TH]; omega) | (rw [mem_TZ]; omega))
      have hQ := hFu.at hQ (by first | (simp; done) | (simp; omega) | (rw [mem_TH]; omega) | (rw [mem_TZ]; omega))
      have hs0 := hs0.at hFu (by first | (simp; done) | (simp; omega) | (rw [mem_TH]; omega) | (rw [mem_TZ]; omega)) (by first | (simp; done) | (simp; omega) | (rw [mem_TH]; omega) | (rw [mem_TZ]; omega)) (fun j hj => by first | (simp; done) | (simp; omega) | (rw [mem_TH]; omega) | (rw [mem_TZ]; omega))
      have htr := htr.at hFu (by first | (simp; done) | (simp; omega) | (rw [mem_TH]; omega) | (rw [mem_TZ]; omega)) (by first | (simp; done) | (simp; omega) | (rw [mem_TH]; omega) | (rw [mem_TZ]; omega)) (fun j hj => by first | (simp; done) | (simp; omega) | (rw [mem_TH]; omega) | (rw [mem_TZ]; omega))
      have hh := hh.at hFu (by first | (simp; done) | (simp; omega) | (rw [mem_TH]; omega) | (rw [mem_TZ]; omega)) (by first | (simp; done) | (simp; omega) | (rw [mem_TH]; omega) | (rw [mem_TZ]; omega)) (by first | (simp; done) | (simp; omega) | (rw [mem_TH]; omega) | (rw [mem_TZ]; omega)) (fun t ht => by rw [mem_TH] at ht; first | (simp; done) | (simp; omega))
      have hx := hx.at hFu (by first | (simp; done) | (simp; omega) | (rw [mem_TH]; omega) | (rw [mem_TZ]; omega)) (by first | (simp; done) | (simp; omega) | (rw [mem_TH]; omega) | (rw [mem_TZ]; omega))
      have hk := hk.at hFu (by first | (simp; done) | (simp; omega) | (rw [mem_TH]; omega) | (rw [mem_TZ]; omega)) (by first | (simp; done) | (simp; omega) | (rw [mem_TH]; omega) | (rw [mem_TZ]; omega)) (by first | (simp; done) | (simp; omega) | (rw [mem_TH]; omega) | (rw [mem_TZ]; omega))
      have hy := hy.at hFu (by first | (simp; done) | (simp; omega) | (rw [mem_TH]; omega) | (rw [mem_TZ]; omega)) (by first | (simp; done) | (simp; omega) | (rw [mem_TH]; omega) | (rw [mem_TZ]; omega)) (by first | (simp; done) | (simp; omega) | (rw [mem_TH]; omega) | (rw [mem_TZ]; omega))
      have hL := hL.at hFu (by simp) (by simp) (by simp)
      have hTu := hTb.imp (fun lb hb => hb)
      obtain ⟨lb, ib, hOb, hLb, hIb⟩ := hTb
      have hA := fun i hi => (⟨(hA i hi).1, (hA i hi).2.1.at hFu (by simp), (hA i hi).2.2⟩ : gg i = some (ad i) ∧ tR M6 (ad i) (ln i) (fl i) (1 + cnB (fl i) (ln i)) (ifn i) (us i) ∧ inT (fl i) (ifn i) (ln i) ∧ TV (ln i) (fl i))
      refine s_invV C 74 0 0 [] (lR_rv hL) dX6_pickIfThere_71 rfl m_X6_221 (c_set (i := t) hL (by decide) (by decide) (by decide) ht9 (hA t ht9).1 hOb (by decide)) rfl rfl rfl ⟨by decide, by decide⟩ (Nat.le_of_ble_eq_true rfl) (by omega) (by omega) ?_
      rintro _ M7 ⟨rfl, hL, hFw⟩
      dsimp only [Option.toList, List.cons_append, List.nil_append]
      have hZ := hFw.at hZ (by first | (simp; done) | (simp; omega) | (rw [mem_TH]; omega) | (rw [mem_TZ]; omega))
      have hS := hFw.at hS (by first | (simp; done) | (simp; omega) | (rw [mem_TH]; omega) | (rw [mem_TZ]; omega))
      have hQ := hFw.at hQ (by first | (simp; done) | (simp; omega) | (rw [mem_TH]; omega) | (rw [mem_TZ]; omega))
      have htr := htr.at hFw (by first | (simp; done) | (simp; omega) | (rw [mem_TH]; omega) | (rw [mem_TZ]; omega)) (by first | (simp; done) | (simp; omega) | (rw [mem_TH]; omega) | (rw [mem_TZ]; omega)) (fun j hj => by first | (simp; done) | (simp; omega) | (rw [mem_TH]; omega) | (rw [mem_TZ]; omega))
      have hh := hh.at hFw (by first | (simp; done) | (simp; omega) | (rw [mem_TH]; omega) | (rw [mem_TZ]; omega)) (by first | (simp; done) | (simp; omega) | (rw [mem_TH]; omega) | (rw [mem_TZ]; omega)) (by first | (simp; done) | (simp; omega) | (rw [mem_TH]; omega) | (rw [mem_TZ]; omega)) (fun t ht => by rw [mem_TH] at ht; first | (simp; done) | (simp; omega))
      have hx := hx.at hFw (by first | (simp; done) | (simp; omega) | (rw [mem_TH]; omega) | (rw [mem_TZ]; omega)) (by first | (simp; done) | (simp; omega) | (rw [mem_TH]; omega) | (rw [mem_TZ]; omega))
      have hk := hk.at hFw (by first | (simp; done) | (simp; omega) | (rw [mem_TH]; omega) | (rw [mem_TZ]; omega)) (by first | (simp; done) | (simp; omega) | (rw [mem_TH]; omega) | (rw [mem_TZ]; omega)) (by first | (simp; done) | (simp; omega) | (rw [mem_TH]; omega) | (rw [mem_TZ]; omega))
      have hy := hy.at hFw (by first | (simp; done) | (simp; omega) | (rw [mem_TH]; omega) | (rw [mem_TZ]; omega)) (by first | (simp; done) | (simp; omega) | (rw [mem_TH]; omega) | (rw [mem_TZ]; omega)) (by first | (simp; done) | (simp; omega) | (rw [mem_TH]; omega) | (rw [mem_TZ]; omega))
      have hA2 : ∀ i, i < T → va_up gg t (some b) i = some (adF ad t b i) ∧ tR M7 (adF ad t b i) (ln i) (fl i) (1 + cnB (fl i) (ln i)) (ifn i) (adF us t (us t + nI 1) i) ∧ inT (fl i) (ifn i) (ln i) ∧ TV (ln i) (fl i) := fun i hi => by unfold adF; by_cases e : i = t; (· rw [if_pos e, if_pos e, e]; exact ⟨va_up_self _ _ _, tR.at hFw (by simp) ⟨lb, ib, hOb, hLb, hIb⟩, (hA t ht9).2.2⟩); rw [if_neg e, if_neg e]; exact ⟨(va_up_ne _ _ e).trans (hA i hi).1, (hA i hi).2.1.at hFw (by simp), (hA i hi).2.2⟩
      have hFs : mZ [100 + 10 * 0, 103 + 10 * 0] M7 M7 := mZ.rf
      refine s_pop C 75 dX6_pickIfThere_74 rfl rfl ?_
      refine s_aload_n C 76 dX6_pickIfThere_75 rfl rfl ?_
      refine s_getf C 79 dX6_pickIfThere_76 rfl f_X6_10 hZ rfl ?_
      refine s_iconst C 80 (nI 0) dX6_pickIfThere_79 rfl (by decide) ?_
      refine s_putU C 83 dX6_pickIfThere_80 rfl p_X6_110 hS (by first | decide | omega) rfl rfl rfl (fs' := [.ref la, .ref qa, .int (nI 0), .int (nI mo), .int (nI od)]) rfl (fun M8 U9 => ?_)
      have hZ := U9.o hS hZ (by first | decide | omega)
      have hQ := U9.o hS hQ (by first | decide | omega)
      have hFs := hFs.put U9 hS (by first | decide | (simp; done) | (simp; omega) | (simp [*]; done))
      have hS := U9.s
      refine s_iload_n C 84 dX6_pickIfThere_83 rfl rfl ?_
      exact s_iret C dX6_pickIfThere_84 Tr rfl ⟨by rw [isIx_nI hj9 (by omega), if_pos rfl, nI_clamp (by omega), hqt], by rw [isIx_nI hj9 (by omega), if_pos rfl, nI_clamp (by omega), ← hqt]; exact ⟨_, _, _, _, _, _, _, s, tr, h, tx, rk, sy, hZ, (sS.mk (fun y hy => absurd hy (Nat.not_lt_zero _)) hqn9 (sR.upd hFs hS hL hQ hT hmo hod (by omega) hA2)), ⟨_, htr.at hFs (by first | (simp; done) | (simp; omega) | (rw [mem_TH]; omega) | (rw [mem_TZ]; omega)) (by first | (simp; done) | (simp; omega) | (rw [mem_TH]; omega) | (rw [mem_TZ]; omega)) (fun j hj => by first | (simp; done) | (simp; omega) | (rw [mem_TH]; omega) | (rw [mem_TZ]; omega))⟩, (hh.at hFs (by first | (simp; done) | (simp; omega) | (rw [mem_TH]; omega) | (rw [mem_TZ]; omega)) (by first | (simp; done) | (simp; omega) | (rw [mem_TH]; omega) | (rw [mem_TZ]; omega)) (by first | (simp; done) | (simp; omega) | (rw [mem_TH]; omega) | (rw [mem_TZ]; omega)) (fun t ht => by rw [mem_TH] at ht; first | (simp; done) | (simp; omega))), ⟨_, _, _, _, _, (hx.at hFs (by first | (simp; done) | (simp; omega) | (rw [mem_TH]; omega) | (rw [mem_TZ]; omega)) (by first | (simp; done) | (simp; omega) | (rw [mem_TH]; omega) | (rw [mem_TZ]; omega)))⟩, (hk.at hFs (by first | (simp; done) | (simp; omega) | (rw [mem_TH]; omega) | (rw [mem_TZ]; omega)) (by first | (simp; done) | (simp; omega) | (rw [mem_TH]; omega) | (rw [mem_TZ]; omega)) (by first | (simp; done) | (simp; omega) | (rw [mem_TH]; omega) | (rw [mem_TZ]; omega))), ⟨_, (hy.at hFs (by first | (simp; done) | (simp; omega) | (rw [mem_TH]; omega) | (rw [mem_TZ]; omega)) (by first | (simp; done) | (simp; omega) | (rw [mem_TH]; omega) | (rw [mem_TZ]; omega)) (by first | (simp; done) | (simp; omega) | (rw [mem_TH]; omega) | (rw [mem_TZ]; omega)))⟩, hch⟩, ((((hFk.mono (fun t ht => by first | (simp at ht; done) | (simp at ht ⊢; omega)))).tr (hFu.mono (fun t ht => by first | (simp at ht; done) | (simp at ht ⊢; omega)))).tr (hFw.mono (fun t ht => by first | (simp at ht; done) | (simp at ht ⊢; omega)))).tr (hFs.mono (fun t ht => by first | (simp at ht; done) | (simp at ht ⊢; omega)))⟩
    · skip
      exact absurd z41 (by rw [isIx_nI ht9 (by omega)]; decide)
  · skip
    have hz9 := z19
    refine s_iconst C 23 (-1) dX6_pickIfThere_22 rfl (by decide) ?_
    exact s_iret C dX6_pickIfThere_23 Tr rfl ⟨by rw [hz9]; rfl, by rw [hz9, if_neg (by decide)]; exact ⟨_, _, _, _, _, _, _, s, tr, h, tx, rk, sy, hZ, hs0, ⟨_, htr⟩, hh, ⟨_, _, _, _, _, hx⟩, hk, ⟨_, hy⟩, hch⟩, (hFk.mono (fun t ht => by first | (simp at ht; done) | (simp at ht ⊢; omega)))⟩

set_option maxRecDepth 100000 in
set_option maxHeartbeats 4000000 in
theorem z_pick {G : mG} {M : mM} {z T mo od ql c n : Nat} {q : Nat → Int32} {ln : Nat → Nat} {fl : Nat → Nat → Int32} {us : Nat → Int32} {hs : Nat → mSt} {g : Nat → Int32} (hz : zR G M z (T, mo, od, ql, q, ln, fl, us) c hs n g) {a : Int32} : CC G iX6_pick 17 355 [.ref z, .int a] M (fun r M1 => r = some (.int (if isIx a (rkN T mo od ql q ln fl us T).1 = true then nI ((rkN T mo od ql q ln fl us T).2 a.toNatClampNeg) else -1)) ∧ zR G M1 z (if isIx a (rkN T mo od ql q ln fl us T).1 = true then (T, mo, od, 0, q, ln, fl, adF us ((rkN T mo od ql q ln fl us T).2 a.toNatClampNeg) (us ((rkN T mo od ql q ln fl us T).2 a.toNatClampNeg) + nI 1)) else (T, mo, od, ql, q, ln, fl, us)) (if isIx a (rkN T mo od ql q ln fl us T).1 = true then (min (c + 1) 6) else c) (if isIx a (rkN T mo od ql q ln fl us T).1 = true then (hPush (T, mo, od, ql, q, ln, fl, us) hs) else hs) n g ∧ mZ TZ M M1) := by
  refine CC.of rfl (Nat.le_of_ble_eq_true rfl) rfl (fun X C Tr => ?_)
  show V X 17 355 0 [some (.ref z), some (.int a)] [] M
  obtain ⟨rc, rr, rp, y1, y2, y3, y4, s, tr, h, tx, rk, sy, hZ, hs0, ⟨yt, htr⟩, hh, ⟨p, cmd, val, fr, to, hx⟩, hk, ⟨yw, hy⟩, hch⟩ := hz
  obtain ⟨q9, hq9, hqn9, hsR⟩ := hs0.get
  have hsR0 := hsR
  obtain ⟨la, qa, cap, gg, ad, ifn, hS, hL, hQ, hT, hmo, hod, hql, hA⟩ := hsR
  refine s_aload_n C 1 dX6_pick_0 rfl rfl ?_
  refine s_getf C 4 dX6_pick_1 rfl f_X6_36 hZ rfl ?_
  refine s_aload_n C 5 dX6_pick_4 rfl rfl ?_
  refine s_getf C 8 dX6_pick_5 rfl f_X6_10 hZ rfl ?_
  refine s_invV C 11 17 355 [] (kR_rv hk) dX6_pick_8 rfl m_X6_205 (c_rank hsR0 hk) rfl rfl rfl ⟨by decide, by decide⟩ (Nat.le_of_ble_eq_true rfl) (by omega) (by omega) ?_
  rintro _ M1 ⟨rfl, hk9, hFk⟩
  dsimp only [Option.toList, List.cons_append, List.nil_append]
  have hZ := hFk.at hZ (by first | (simp; done) | (simp; omega) | (rw [mem_TH]; omega) | (rw [mem_TZ]; omega))
  have hs0 := hs0.at hFk (by first | (simp; done) | (simp; omega) | (rw [mem_TH]; omega) | (rw [mem_TZ]; omega)) (by first | (simp; done) | (simp; omega) | (rw [mem_TH]; omega) | (rw [mem_TZ]; omega)) (fun j hj => by first | (simp; done) | (simp; omega) | (rw [mem_TH]; omega) | (rw [mem_TZ]; omega))
  have htr := htr.at hFk (by first | (simp; done) | (simp; omega) | (rw [mem_TH]; omega) | (rw [mem_TZ]; omega)) (by first | (simp; done) | (simp; omega) | (rw [mem_TH]; omega) | (rw [mem_TZ]; omega)) (fun j hj => by first | (simp; done) | (simp; omega) | (rw [mem_TH]; omega) | (rw [mem_TZ]; omega))
  have hh := hh.at hFk (by first | (simp; done) | (simp; omega) | (rw [mem_TH]; omega) | (rw [mem_TZ]; omega)) (by first | (simp; done) | (simp; omega) | (rw [mem_TH]; omega) | (rw [mem_TZ]; omega)) (by first | (simp; done) | (simp; omega) | (rw [mem_TH]; omega) | (rw [mem_TZ]; omega)) (fun t ht => by rw [mem_TH] at ht; first | (simp; done) | (simp; omega))
  have hx := hx.at hFk (by first | (simp; done) | (simp; omega) | (rw [mem_TH]; omega) | (rw [mem_TZ]; omega)) (by first | (simp; done) | (simp; omega) | (rw [mem_TH]; omega) | (rw [mem_TZ]; omega))
  have hy := hy.at hFk (by first | (simp; done) | (simp; omega) | (rw [mem_TH]; omega) | (rw [mem_TZ]; omega)) (by first | (simp; done) | (simp; omega) | (rw [mem_TH]; omega) | (rw [mem_TZ]; omega)) (by first | (simp; done) | (simp; omega) | (rw [mem_TH]; omega) | (rw [mem_TZ]; omega))
  rw [rkN_q hq9, show plN mo ql q9 ln fl = plN mo ql q ln fl from funext (fun _ => plN_q hq9)] at hk9
  have hk := hk9
  have hkk := hk9
  obtain ⟨ra, pa, rf, pf, hRk, hRa, hPa, hc16, hrk⟩ := hkk
  refine s_aload_n C 12 dX6_pick_11 rfl rfl ?_
  refine s_getf C 15 dX6_pick_12 rfl f_X6_36 hZ rfl ?_
  refine s_iload_n C 16 dX6_pick_15 rfl rfl ?_
  refine s_invV C 19 17 355 [] (kR_rv hk) dX6_pick_16 rfl m_X6_211 (c_rhas (x := a) hk) rfl rfl rfl ⟨by decide, by decide⟩ (Nat.le_of_ble_eq_true rfl) (by omega) (by omega) ?_
  rintro _ M2 ⟨rfl, rfl⟩
  dsimp only [Option.toList, List.cons_append, List.nil_append]
  refine s_if_neB C 24 22 dX6_pick_19 (by decide) rfl (fun z19 => ?_) (fun z19 => ?_)
  · skip
    refine s_aload_n C 25 dX6_pick_24 rfl rfl ?_
    refine s_getf C 28 dX6_pick_25 rfl f_X6_22 hZ rfl ?_
    refine s_aload_n C 29 dX6_pick_28 rfl rfl ?_
    refine s_getf C 32 dX6_pick_29 rfl f_X6_10 hZ rfl ?_
    refine s_invV C 35 1 3 [] (hR_rv hh) dX6_pick_32 rfl m_X6_62 (c_save hh hs0 (by omega)) rfl rfl rfl ⟨by decide, by decide⟩ (Nat.le_of_ble_eq_true rfl) (by omega) (by omega) ?_
    rintro _ M3 ⟨rfl, hh9, hs9, hFh⟩
    dsimp only [Option.toList, List.cons_append, List.nil_append]
    have hZ := hFh.at hZ (by first | (simp; done) | (simp; omega) | (rw [mem_TH]; omega) | (rw [mem_TZ]; omega))
    have htr := htr.at hFh (by first | (simp; done) | (simp; omega) | (rw [mem_TH]; omega) | (rw [mem_TZ]; omega)) (by first | (simp; done) | (simp; omega) | (rw [mem_TH]; omega) | (rw [mem_TZ]; omega)) (fun j hj => by first | (simp; done) | (simp; omega) | (rw [mem_TH]; omega) | (rw [mem_TZ]; omega))
    have hx := hx.at hFh (by first | (simp; done) | (simp; omega) | (rw [mem_TH]; omega) | (rw [mem_TZ]; omega)) (by first | (simp; done) | (simp; omega) | (rw [mem_TH]; omega) | (rw [mem_TZ]; omega))
    have hk := hk.at hFh (by first | (simp; done) | (simp; omega) | (rw [mem_TH]; omega) | (rw [mem_TZ]; omega)) (by first | (simp; done) | (simp; omega) | (rw [mem_TH]; omega) | (rw [mem_TZ]; omega)) (by first | (simp; done) | (simp; omega) | (rw [mem_TH]; omega) | (rw [mem_TZ]; omega))
    have hy := hy.at hFh (by first | (simp; done) | (simp; omega) | (rw [mem_TH]; omega) | (rw [mem_TZ]; omega)) (by first | (simp; done) | (simp; omega) | (rw [mem_TH]; omega) | (rw [mem_TZ]; omega)) (by first | (simp; done) | (simp; omega) | (rw [mem_TH]; omega) | (rw [mem_TZ]; omega))
    have hh := hh9
    have hs0 := hs9
    obtain ⟨q9, hq9, hqn9, hsR⟩ := hs0.get
    have hsR0 := hsR
    obtain ⟨la, qa, cap, gg, ad, ifn, hS, hL, hQ, hT, hmo, hod, hql, hA⟩ := hsR
    have hF := hFh.mono (T' := TZ) (fun t ht => by rw [mem_TH] at ht; rw [mem_TZ]; omega)
    have hz7 : zR G M3 z (T, mo, od, ql, q, ln, fl, us) (min (c + 1) 6) (hPush (T, mo, od, ql, q, ln, fl, us) hs) n g := ⟨_, _, _, _, _, _, _, s, tr, h, tx, rk, sy, hZ, hs0, ⟨_, htr⟩, hh, ⟨_, _, _, _, _, hx⟩, hk, ⟨_, hy⟩, hch⟩
    refine s_aload_n C 36 dX6_pick_35 rfl rfl ?_
    refine s_iload_n C 37 dX6_pick_36 rfl rfl ?_
    refine s_invV C 40 0 0 [] (zR_rv hz7) dX6_pick_37 rfl m_X6_106 (z_pickIf hz7) rfl rfl rfl ⟨by decide, by decide⟩ (Nat.le_of_ble_eq_true rfl) (by omega) (by omega) ?_
    rintro _ M4 ⟨rfl, hz8, hFr⟩
    dsimp only [Option.toList, List.cons_append, List.nil_append]
    exact s_iret C dX6_pick_40 Tr rfl ⟨rfl, by rw [if_pos z19, if_pos z19, if_pos z19]; rw [if_pos z19] at hz8; exact hz8, (((hFk.mono (fun t ht => by first | (rw [mem_TH] at ht; rw [mem_TZ]; omega) | (simp at ht; done) | (rw [mem_TZ]; simp at ht; omega)))).tr hF).tr (hFr.mono (fun t ht => by first | (rw [mem_TH] at ht; rw [mem_TZ]; omega) | (simp at ht; done) | (rw [mem_TZ]; simp at ht; omega)))⟩
  · skip
    refine s_iconst C 23 (-1) dX6_pick_22 rfl (by decide) ?_
    exact s_iret C dX6_pick_23 Tr rfl ⟨by rw [z19]; rfl, by rw [z19]; exact ⟨_, _, _, _, _, _, _, s, tr, h, tx, rk, sy, hZ, hs0, ⟨_, htr⟩, hh, ⟨_, _, _, _, _, hx⟩, hk, ⟨_, hy⟩, hch⟩, (hFk.mono (fun t ht => by first | (rw [mem_TH] at ht; rw [mem_TZ]; omega) | (simp at ht; done) | (rw [mem_TZ]; simp at ht; omega)))⟩

set_option maxRecDepth 100000 in
set_option maxHeartbeats 4000000 in
theorem z_addIf {G : mG} {M : mM} {z T mo od ql c n : Nat} {q : Nat → Int32} {ln : Nat → Nat} {fl : Nat → Nat → Int32} {us : Nat → Int32} {hs : Nat → mSt} {g : Nat → Int32} (hz : zR G M z (T, mo, od, ql, q, ln, fl, us) c hs n g) {b n2 : Nat} {f2 i2 : Nat → Int32} {u2 : Int32} (hTb : tR M b n2 f2 (1 + cnB f2 n2) i2 u2) (hIn : inT f2 i2 n2) (hTV : TV n2 f2) : CC G iX6_addIfPossible 1 22 [.ref z, .ref b] M (fun r M1 => r = some (.int (if refV T ln fl f2 n2 < 0 then refV T ln fl f2 n2 else nI T)) ∧ zR G M1 z (if refV T ln fl f2 n2 < 0 then (T, mo, od, ql, q, ln, fl, us) else (stAdd T mo od ql q ln fl us n2 f2 u2)) c hs n g ∧ mZ [101 + 10 * 0, 102 + 10 * 0] M M1) := by
  refine CC.of rfl (Nat.le_of_ble_eq_true rfl) rfl (fun X C Tr => ?_)
  show V X 1 22 0 [some (.ref z), some (.ref b), none] [] M
  obtain ⟨rc, rr, rp, y1, y2, y3, y4, s, tr, h, tx, rk, sy, hZ, hs0, ⟨yt, htr⟩, hh, ⟨p, cmd, val, fr, to, hx⟩, hk, ⟨yw, hy⟩, hch⟩ := hz
  obtain ⟨q9, hq9, hqn9, hsR⟩ := hs0.get
  have hsR0 := hsR
  obtain ⟨la, qa, cap, gg, ad, ifn, hS, hL, hQ, hT, hmo, hod, hql, hA⟩ := hsR
  have hTb0 := hTb
  obtain ⟨lb, ib, hOb, hLb, hIb⟩ := hTb0
  refine s_aload_n C 1 dX6_addIfPossible_0 rfl rfl ?_
  refine s_getf C 4 dX6_addIfPossible_1 rfl f_X6_10 hZ rfl ?_
  refine s_aload_n C 5 dX6_addIfPossible_4 rfl rfl ?_
  refine s_invV C 8 1 22 [] (sR_rv hsR0) dX6_addIfPossible_5 rfl m_X6_116 (c_refusal hsR0 hOb hLb hIb hTV.2.1) rfl rfl rfl ⟨by decide, by decide⟩ (Nat.le_of_ble_eq_true rfl) (by omega) (by omega) ?_
  rintro _ M1 ⟨rfl, rfl⟩
  dsimp only [Option.toList, List.cons_append, List.nil_append]
  refine s_istore_n C 9 dX6_addIfPossible_8 rfl rfl rfl ?_
  dsimp only [List.set]
  refine s_iload_n C 10 dX6_addIfPossible_9 rfl rfl ?_
  refine s_if_ge C 15 13 dX6_addIfPossible_10 (by decide) rfl (fun z10 => ?_) (fun z10 => ?_)
  · skip
    have hnn : ¬ refV T ln fl f2 n2 < 0 := i32_le.mp z10
    have hrv := (refV_lt (T := T) (ln := ln) (fl := fl) (f := f2) (n := n2)).resolve_left hnn
    have hT15 := hrv.2.2
    refine s_aload_n C 16 dX6_addIfPossible_15 rfl rfl ?_
    refine s_getf C 19 dX6_addIfPossible_16 rfl f_X6_10 hZ rfl ?_
    refine s_getf C 22 dX6_addIfPossible_19 rfl f_X6_119 hS rfl ?_
    refine s_aload_n C 23 dX6_addIfPossible_22 rfl rfl ?_
    have hTi : ∀ k, k < T → ∀ y, gg k = some y → ∃ fs, M y = some (1, .inl (6, fs)) := fun k hk y hy => by rw [(hA k hk).1] at hy; cases hy; obtain ⟨l9, i9, h9, -⟩ := (hA k hk).2.1; exact ⟨_, h9⟩
    refine s_invV C 26 0 0 [] (lR_rv hL) dX6_addIfPossible_23 rfl m_X6_123 (c_add hL (by decide) (by decide) (by decide) (by decide) (by decide) hTi hOb (by decide) (by decide) (by omega)) rfl rfl rfl ⟨by decide, by decide⟩ (Nat.le_of_ble_eq_true rfl) (by omega) (by omega) ?_
    rintro _ M2 ⟨rfl, cap2, g2, hL2, hg2, hgT, hFr⟩
    dsimp only [Option.toList, List.cons_append, List.nil_append]
    have hs9 : sS G M2 0 s (stAdd T mo od ql q ln fl us n2 f2 u2) := sS.mk hq9 hqn9 ⟨la, qa, cap2, g2, adF ad T b, adF ifn T i2, hFr.at hS (by simp), hL2, hFr.at hQ (by simp), by omega, hmo, hod, hql, fun i hi => by unfold adF; by_cases e : i = T; (· simp only [if_pos e]; rw [e]; exact ⟨hgT, hTb.at hFr (by simp), hIn, hTV⟩); simp only [if_neg e]; rw [hg2 i (by omega)]; exact ⟨(hA i (by omega)).1, (hA i (by omega)).2.1.at hFr (by simp), (hA i (by omega)).2.2⟩⟩
    have hZ := hFr.at hZ (by first | (simp; done) | (simp; omega) | (rw [mem_TH]; omega) | (rw [mem_TZ]; omega))
    have hS := hFr.at hS (by first | (simp; done) | (simp; omega) | (rw [mem_TH]; omega) | (rw [mem_TZ]; omega))
    have htr := htr.at hFr (by first | (simp; done) | (simp; omega) | (rw [mem_TH]; omega) | (rw [mem_TZ]; omega)) (by first | (simp; done) | (simp; omega) | (rw [mem_TH]; omega) | (rw [mem_TZ]; omega)) (fun j hj => by first | (simp; done) | (simp; omega) | (rw [mem_TH]; omega) | (rw [mem_TZ]; omega))
    have hh := hh.at hFr (by first | (simp; done) | (simp; omega) | (rw [mem_TH]; omega) | (rw [mem_TZ]; omega)) (by first | (simp; done) | (simp; omega) | (rw [mem_TH]; omega) | (rw [mem_TZ]; omega)) (by first | (simp; done) | (simp; omega) | (rw [mem_TH]; omega) | (rw [mem_TZ]; omega)) (fun t ht => by rw [mem_TH] at ht; first | (simp; done) | (simp; omega))
    have hx := hx.at hFr (by first | (simp; done) | (simp; omega) | (rw [mem_TH]; omega) | (rw [mem_TZ]; omega)) (by first | (simp; done) | (simp; omega) | (rw [mem_TH]; omega) | (rw [mem_TZ]; omega))
    have hk := hk.at hFr (by first | (simp; done) | (simp; omega) | (rw [mem_TH]; omega) | (rw [mem_TZ]; omega)) (by first | (simp; done) | (simp; omega) | (rw [mem_TH]; omega) | (rw [mem_TZ]; omega)) (by first | (simp; done) | (simp; omega) | (rw [mem_TH]; omega) | (rw [mem_TZ]; omega))
    have hy := hy.at hFr (by first | (simp; done) | (simp; omega) | (rw [mem_TH]; omega) | (rw [mem_TZ]; omega)) (by first | (simp; done) | (simp; omega) | (rw [mem_TH]; omega) | (rw [mem_TZ]; omega)) (by first | (simp; done) | (simp; omega) | (rw [mem_TH]; omega) | (rw [mem_TZ]; omega))
    refine s_pop C 27 dX6_addIfPossible_26 rfl rfl ?_
    refine s_aload_n C 28 dX6_addIfPossible_27 rfl rfl ?_
    refine s_getf C 31 dX6_addIfPossible_28 rfl f_X6_10 hZ rfl ?_
    refine s_getf C 34 dX6_addIfPossible_31 rfl f_X6_119 hS rfl ?_
    refine s_invV C 37 0 0 [] (lR_rv hL2) dX6_addIfPossible_34 rfl m_X6_129 (c_size hL2) rfl rfl rfl ⟨by decide, by decide⟩ (Nat.le_of_ble_eq_true rfl) (by omega) (by omega) ?_
    rintro _ M3 ⟨rfl, rfl⟩
    dsimp only [Option.toList, List.cons_append, List.nil_append]
    refine s_iconst C 38 (nI 1) dX6_addIfPossible_37 rfl (by decide) ?_
    refine s_isubN C 39 dX6_addIfPossible_38 rfl (by omega) ?_
    exact s_iret C dX6_addIfPossible_39 Tr rfl ⟨by rw [if_neg hnn, show T + 1 - 1 = T by omega], by rw [if_neg hnn]; exact ⟨_, _, _, _, _, _, _, s, tr, h, tx, rk, sy, hZ, hs9, ⟨_, htr⟩, hh, ⟨_, _, _, _, _, hx⟩, hk, ⟨_, hy⟩, hch⟩, hFr⟩
  · skip
    have hnn : refV T ln fl f2 n2 < 0 := by first | exact z10 | exact i32_nle.mp z10
    refine s_iload_n C 14 dX6_addIfPossible_13 rfl rfl ?_
    exact s_iret C dX6_addIfPossible_14 Tr rfl ⟨by rw [if_pos hnn]; rfl, by rw [if_pos hnn]; exact ⟨_, _, _, _, _, _, _, s, tr, h, tx, rk, sy, hZ, hs0, ⟨_, htr⟩, hh, ⟨_, _, _, _, _, hx⟩, hk, ⟨_, hy⟩, hch⟩, mZ.rf⟩
