/-! the digest's words -/
def hwN (f : Nat → Int32) (h : Int64) : Nat → Int64
  | 0 => h
  | k + 1 => 31 * hwN f h k + (f k).toInt64
def hrN (r p : Nat → Nat) (h : Int64) : Nat → Int64
  | 0 => h
  | k + 1 => 31 * (31 * hrN r p h k + (nI (r k)).toInt64) + (nI (p (r k))).toInt64
set_option maxRecDepth 100000 in
set_option maxHeartbeats 4000000 in
theorem z_add {G : mG} {M : mM} {z T mo od ql c n : Nat} {q : Nat → Int32} {ln : Nat → Nat} {fl : Nat → Nat → Int32} {us : Nat → Int32} {hs : Nat → mSt} {g : Nat → Int32} (hz : zR G M z (T, mo, od, ql, q, ln, fl, us) c hs n g) : CC G iX6_add 20 426 [.ref z] M (fun r M1 => r = some (.int (if itB g n = true then (if refV T ln fl (fun j => g (0 + j)) n < 0 then refV T ln fl (fun j => g (0 + j)) n else nI T) else -5)) ∧ zR G M1 z (if (itB g n = true ∧ ¬ refV T ln fl (fun j => g (0 + j)) n < 0) then (stAdd T mo od ql q ln fl us n (fun j => g (0 + j)) (nI 0)) else (T, mo, od, ql, q, ln, fl, us)) (if (itB g n = true ∧ ¬ refV T ln fl (fun j => g (0 + j)) n < 0) then (min (c + 1) 6) else c) (if (itB g n = true ∧ ¬ refV T ln fl (fun j => g (0 + j)) n < 0) then (hPush (T, mo, od, ql, q, ln, fl, us) hs) else hs) (if (itB g n = true ∧ ¬ refV T ln fl (fun j => g (0 + j)) n < 0) then 0 else n) g ∧ mZ TZ M M1) := by
  refine CC.of rfl (Nat.le_of_ble_eq_true rfl) rfl (fun X C Tr => ?_)
  show V X 20 426 0 [some (.ref z), none, none] [] M
  obtain ⟨rc, rr, rp, y1, y2, y3, y4, s, tr, h, tx, rk, sy, hZ, hs0, ⟨yt, htr⟩, hh, ⟨p, cmd, val, fr, to, hx⟩, hk, ⟨yw, hy⟩, hch⟩ := hz
  refine s_aload_n C 1 dX6_add_0 rfl rfl ?_
  refine s_getf C 4 dX6_add_1 rfl f_X6_29 hZ rfl ?_
  refine s_invV C 7 20 426 [] (xR_rv hx) dX6_add_4 rfl m_X6_113 (c_isTitle hx) rfl rfl rfl ⟨by decide, by decide⟩ (Nat.le_of_ble_eq_true rfl) (by omega) (by omega) ?_
  rintro _ M1 ⟨rfl, hx9, hFx⟩
  dsimp only [Option.toList, List.cons_append, List.nil_append]
  have hZ := hFx.at hZ (by first | (simp; done) | (simp; omega) | (rw [mem_TH]; omega) | (rw [mem_TZ]; omega))
  have hs0 := hs0.at hFx (by first | (simp; done) | (simp; omega) | (rw [mem_TH]; omega) | (rw [mem_TZ]; omega)) (by first | (simp; done) | (simp; omega) | (rw [mem_TH]; omega) | (rw [mem_TZ]; omega)) (fun j hj => by first | (simp; done) | (simp; omega) | (rw [mem_TH]; omega) | (rw [mem_TZ]; omega))
  have htr := htr.at hFx (by first | (simp; done) | (simp; omega) | (rw [mem_TH]; omega) | (rw [mem_TZ]; omega)) (by first | (simp; done) | (simp; omega) | (rw [mem_TH]; omega) | (rw [mem_TZ]; omega)) (fun j hj => by first | (simp; done) | (simp; omega) | (rw [mem_TH]; omega) | (rw [mem_TZ]; omega))
  have hh := hh.at hFx (by first | (simp; done) | (simp; omega) | (rw [mem_TH]; omega) | (rw [mem_TZ]; omega)) (by first | (simp; done) | (simp; omega) | (rw [mem_TH]; omega) | (rw [mem_TZ]; omega)) (by first | (simp; done) | (simp; omega) | (rw [mem_TH]; omega) | (rw [mem_TZ]; omega)) (fun t ht => by rw [mem_TH] at ht; first | (simp; done) | (simp; omega))
  have hk := hk.at hFx (by first | (simp; done) | (simp; omega) | (rw [mem_TH]; omega) | (rw [mem_TZ]; omega)) (by first | (simp; done) | (simp; omega) | (rw [mem_TH]; omega) | (rw [mem_TZ]; omega)) (by first | (simp; done) | (simp; omega) | (rw [mem_TH]; omega) | (rw [mem_TZ]; omega))
  have hy := hy.at hFx (by first | (simp; done) | (simp; omega) | (rw [mem_TH]; omega) | (rw [mem_TZ]; omega)) (by first | (simp; done) | (simp; omega) | (rw [mem_TH]; omega) | (rw [mem_TZ]; omega)) (by first | (simp; done) | (simp; omega) | (rw [mem_TH]; omega) | (rw [mem_TZ]; omega))
  have hx := hx9
  refine s_if_neB C 13 10 dX6_add_7 (by decide) rfl (fun z7 => ?_) (fun z7 => ?_)
  · skip
    obtain ⟨he9, hTV, hn24⟩ := itB_TV z7
    rw [he9] at hx
    have hs1 := hs0
    obtain ⟨q9, hq9, hqn9, hsR⟩ := hs1.get
    refine s_aload_n C 14 dX6_add_13 rfl rfl ?_
    refine s_getf C 17 dX6_add_14 rfl f_X6_29 hZ rfl ?_
    refine s_invV C 20 17 374 [] (xR_rv hx) dX6_add_17 rfl m_X6_82 (c_passedTitle hx (by omega) (by omega) (by omega) hch) rfl rfl rfl ⟨by decide, by decide⟩ (Nat.le_of_ble_eq_true rfl) (by omega) (by omega) ?_
    rintro _ M2 ⟨b, i2, rfl, hnb, hIn, hTb, hFp⟩
    dsimp only [Option.toList, List.cons_append, List.nil_append]
    rw [Nat.sub_zero] at hIn hTb
    have hZ := hFp.at hZ (by first | (simp; done) | (simp; omega) | (rw [mem_TH]; omega) | (rw [mem_TZ]; omega))
    have hs0 := hs0.at hFp (by first | (simp; done) | (simp; omega) | (rw [mem_TH]; omega) | (rw [mem_TZ]; omega)) (by first | (simp; done) | (simp; omega) | (rw [mem_TH]; omega) | (rw [mem_TZ]; omega)) (fun j hj => by first | (simp; done) | (simp; omega) | (rw [mem_TH]; omega) | (rw [mem_TZ]; omega))
    have htr := htr.at hFp (by first | (simp; done) | (simp; omega) | (rw [mem_TH]; omega) | (rw [mem_TZ]; omega)) (by first | (simp; done) | (simp; omega) | (rw [mem_TH]; omega) | (rw [mem_TZ]; omega)) (fun j hj => by first | (simp; done) | (simp; omega) | (rw [mem_TH]; omega) | (rw [mem_TZ]; omega))
    have hh := hh.at hFp (by first | (simp; done) | (simp; omega) | (rw [mem_TH]; omega) | (rw [mem_TZ]; omega)) (by first | (simp; done) | (simp; omega) | (rw [mem_TH]; omega) | (rw [mem_TZ]; omega)) (by first | (simp; done) | (simp; omega) | (rw [mem_TH]; omega) | (rw [mem_TZ]; omega)) (fun t ht => by rw [mem_TH] at ht; first | (simp; done) | (simp; omega))
    have hx := hx.at hFp (by first | (simp; done) | (simp; omega) | (rw [mem_TH]; omega) | (rw [mem_TZ]; omega)) (by first | (simp; done) | (simp; omega) | (rw [mem_TH]; omega) | (rw [mem_TZ]; omega))
    have hk := hk.at hFp (by first | (simp; done) | (simp; omega) | (rw [mem_TH]; omega) | (rw [mem_TZ]; omega)) (by first | (simp; done) | (simp; omega) | (rw [mem_TH]; omega) | (rw [mem_TZ]; omega)) (by first | (simp; done) | (simp; omega) | (rw [mem_TH]; omega) | (rw [mem_TZ]; omega))
    have hy := hy.at hFp (by first | (simp; done) | (simp; omega) | (rw [mem_TH]; omega) | (rw [mem_TZ]; omega)) (by first | (simp; done) | (simp; omega) | (rw [mem_TH]; omega) | (rw [mem_TZ]; omega)) (by first | (simp; done) | (simp; omega) | (rw [mem_TH]; omega) | (rw [mem_TZ]; omega))
    obtain ⟨q9, hq9, hqn9, hsR⟩ := hs0.get
    have hsR0 := hsR
    obtain ⟨la, qa, cap, gg, ad, ifn, hS, hL, hQ, hT, hmo, hod, hql, hA⟩ := hsR
    obtain ⟨lb, ib, hOb, hLb, hIb⟩ := hTb
    have hTb : tR M2 b n (fun j => g (0 + j)) (1 + cnB (fun j => g (0 + j)) n) i2 (nI 0) := ⟨lb, ib, hOb, hLb, hIb⟩
    have hz2 : zR G M2 z (T, mo, od, ql, q, ln, fl, us) c hs n g := ⟨_, _, _, _, _, _, _, s, tr, h, tx, rk, sy, hZ, hs0, ⟨_, htr⟩, hh, ⟨_, _, _, _, _, hx⟩, hk, ⟨_, hy⟩, hch⟩
    refine s_astore_n C 21 dX6_add_20 rfl rfl rfl ?_
    dsimp only [List.set]
    refine s_aload_n C 22 dX6_add_21 rfl rfl ?_
    refine s_getf C 25 dX6_add_22 rfl f_X6_10 hZ rfl ?_
    refine s_aload_n C 26 dX6_add_25 rfl rfl ?_
    refine s_invV C 29 17 374 [] (sR_rv hsR0) dX6_add_26 rfl m_X6_116 (c_refusal hsR0 hOb hLb hIb hn24) rfl rfl rfl ⟨by decide, by decide⟩ (Nat.le_of_ble_eq_true rfl) (by omega) (by omega) ?_
    rintro _ M3 ⟨rfl, rfl⟩
    dsimp only [Option.toList, List.cons_append, List.nil_append]
    refine s_istore_n C 30 dX6_add_29 rfl rfl rfl ?_
    dsimp only [List.set]
    refine s_iload_n C 31 dX6_add_30 rfl rfl ?_
    refine s_if_ge C 36 34 dX6_add_31 (by decide) rfl (fun z31 => ?_) (fun z31 => ?_)
    · skip
      have hnn : ¬ refV T ln fl (fun j => g (0 + j)) n < 0 := i32_le.mp z31
      have hyes : (itB g n = true ∧ ¬ refV T ln fl (fun j => g (0 + j)) n < 0) := ⟨z7, hnn⟩
      refine s_aload_n C 37 dX6_add_36 rfl rfl ?_
      refine s_getf C 40 dX6_add_37 rfl f_X6_22 hZ rfl ?_
      refine s_aload_n C 41 dX6_add_40 rfl rfl ?_
      refine s_getf C 44 dX6_add_41 rfl f_X6_10 hZ rfl ?_
      refine s_invV C 47 1 22 [] (hR_rv hh) dX6_add_44 rfl m_X6_62 (c_save hh hs0 (by omega)) rfl rfl rfl ⟨by decide, by decide⟩ (Nat.le_of_ble_eq_true rfl) (by omega) (by omega) ?_
      rintro _ M4 ⟨rfl, hh9, hs9, hFh⟩
      dsimp only [Option.toList, List.cons_append, List.nil_append]
      have hZ := hFh.at hZ (by first | (simp; done) | (simp; omega) | (rw [mem_TH]; omega) | (rw [mem_TZ]; omega))
      have htr := htr.at hFh (by first | (simp; done) | (simp; omega) | (rw [mem_TH]; omega) | (rw [mem_TZ]; omega)) (by first | (simp; done) | (simp; omega) | (rw [mem_TH]; omega) | (rw [mem_TZ]; omega)) (fun j hj => by first | (simp; done) | (simp; omega) | (rw [mem_TH]; omega) | (rw [mem_TZ]; omega))
      have hx := hx.at hFh (by first | (simp; done) | (simp; omega) | (rw [mem_TH]; omega) | (rw [mem_TZ]; omega)) (by first | (simp; done) | (simp; omega) | (rw [mem_TH]; omega) | (rw [mem_TZ]; omega))
      have hk := hk.at hFh (by first | (simp; done) | (simp; omega) | (rw [mem_TH]; omega) | (rw [mem_TZ]; omega)) (by first | (simp; done) | (simp; omega) | (rw [mem_TH]; omega) | (rw [mem_TZ]; omega)) (by first | (simp; done) | (simp; omega) | (rw [mem_TH]; omega) | (rw [mem_TZ]; omega))
      have hy := hy.at hFh (by first | (simp; done) | (simp; omega) | (rw [mem_TH]; omega) | (rw [mem_TZ]; omega)) (by first | (simp; done) | (simp; omega) | (rw [mem_TH]; omega) | (rw [mem_TZ]; omega)) (by first | (simp; done) | (simp; omega) | (rw [mem_TH]; omega) | (rw [mem_TZ]; omega))
      have hh := hh9
      have hs0 := hs9
      obtain ⟨q9, hq9, hqn9, hsR⟩ := hs0.get
      have hsR0 := hsR
      obtain ⟨la, qa, cap, gg, ad, ifn, hS, hL, hQ, hT, hmo, hod, hql, hA⟩ := hsR
      have hF := hFh.mono (T' := TZ) (fun t ht => by rw [mem_TH] at ht; rw [mem_TZ]; omega)
      have hTb := hTb.at hFh (by first | (simp; done) | (simp; omega) | (rw [mem_TH]; omega) | (rw [mem_TZ]; omega))
      refine s_aload_n C 48 dX6_add_47 rfl rfl ?_
      refine s_getf C 51 dX6_add_48 rfl f_X6_29 hZ rfl ?_
      refine s_invV C 54 1 22 [] (xR_rv hx) dX6_add_51 rfl m_X6_55 (c_makeEmpty hx) rfl rfl rfl ⟨by decide, by decide⟩ (Nat.le_of_ble_eq_true rfl) (by omega) (by omega) ?_
      rintro _ M5 ⟨rfl, hx8, hFe⟩
      dsimp only [Option.toList, List.cons_append, List.nil_append]
      have hZ := hFe.at hZ (by first | (simp; done) | (simp; omega) | (rw [mem_TH]; omega) | (rw [mem_TZ]; omega))
      have hs0 := hs0.at hFe (by first | (simp; done) | (simp; omega) | (rw [mem_TH]; omega) | (rw [mem_TZ]; omega)) (by first | (simp; done) | (simp; omega) | (rw [mem_TH]; omega) | (rw [mem_TZ]; omega)) (fun j hj => by first | (simp; done) | (simp; omega) | (rw [mem_TH]; omega) | (rw [mem_TZ]; omega))
      have htr := htr.at hFe (by first | (simp; done) | (simp; omega) | (rw [mem_TH]; omega) | (rw [mem_TZ]; omega)) (by first | (simp; done) | (simp; omega) | (rw [mem_TH]; omega) | (rw [mem_TZ]; omega)) (fun j hj => by first | (simp; done) | (simp; omega) | (rw [mem_TH]; omega) | (rw [mem_TZ]; omega))
      have hh := hh.at hFe (by first | (simp; done) | (simp; omega) | (rw [mem_TH]; omega) | (rw [mem_TZ]; omega)) (by first | (simp; done) | (simp; omega) | (rw [mem_TH]; omega) | (rw [mem_TZ]; omega)) (by first | (simp; done) | (simp; omega) | (rw [mem_TH]; omega) | (rw [mem_TZ]; omega)) (fun t ht => by rw [mem_TH] at ht; first | (simp; done) | (simp; omega))
      have hk := hk.at hFe (by first | (simp; done) | (simp; omega) | (rw [mem_TH]; omega) | (rw [mem_TZ]; omega)) (by first | (simp; done) | (simp; omega) | (rw [mem_TH]; omega) | (rw [mem_TZ]; omega)) (by first | (simp; done) | (simp; omega) | (rw [mem_TH]; omega) | (rw [mem_TZ]; omega))
      have hy := hy.at hFe (by first | (simp; done) | (simp; omega) | (rw [mem_TH]; omega) | (rw [mem_TZ]; omega)) (by first | (simp; done) | (simp; omega) | (rw [mem_TH]; omega) | (rw [mem_TZ]; omega)) (by first | (simp; done) | (simp; omega) | (rw [mem_TH]; omega) | (rw [mem_TZ]; omega))
      have hx := hx8
      have hTb := hTb.at hFe (by simp)
      have hz6 : zR G M5 z (T, mo, od, ql, q, ln, fl, us) (min (c + 1) 6) (hPush (T, mo, od, ql, q, ln, fl, us) hs) 0 g := ⟨_, _, _, _, _, _, _, s, tr, h, tx, rk, sy, hZ, hs0, ⟨_, htr⟩, hh, ⟨_, _, _, _, _, hx⟩, hk, ⟨_, hy⟩, (fun k hk => absurd hk (Nat.not_lt_zero _))⟩
      refine s_aload_n C 55 dX6_add_54 rfl rfl ?_
      refine s_aload_n C 56 dX6_add_55 rfl rfl ?_
      refine s_invV C 59 0 0 [] (zR_rv hz6) dX6_add_56 rfl m_X6_86 (z_addIf hz6 hTb hIn hTV) rfl rfl rfl ⟨by decide, by decide⟩ (Nat.le_of_ble_eq_true rfl) (by omega) (by omega) ?_
      rintro _ M6 ⟨rfl, hz8, hFr⟩
      dsimp only [Option.toList, List.cons_append, List.nil_append]
      exact s_iret C dX6_add_59 Tr rfl ⟨by rw [if_pos z7, if_neg hnn], by rw [if_pos hyes, if_pos hyes, if_pos hyes, if_pos hyes]; rw [if_neg hnn] at hz8; exact hz8, ((((((hFx.mono (fun t ht => by first | (rw [mem_TH] at ht; rw [mem_TZ]; omega) | (simp at ht; done) | (rw [mem_TZ]; simp at ht; omega)))).tr (hFp.mono (fun t ht => by first | (rw [mem_TH] at ht; rw [mem_TZ]; omega) | (simp at ht; done) | (rw [mem_TZ]; simp at ht; omega))))).tr hF).tr (hFe.mono (fun t ht => by first | (rw [mem_TH] at ht; rw [mem_TZ]; omega) | (simp at ht; done) | (rw [mem_TZ]; simp at ht; omega)))).tr (hFr.mono (fun t ht => by first | (rw [mem_TH] at ht; rw [mem_TZ]; omega) | (simp at ht; done) | (rw [mem_TZ]; simp at ht; omega)))⟩
    · skip
      have hnn : refV T ln fl (fun j => g (0 + j)) n < 0 := by first | exact z31 | exact i32_nle.mp z31
      have hno : ¬ (itB g n = true ∧ ¬ refV T ln fl (fun j => g (0 + j)) n < 0) := fun w7 => w7.2 hnn
      refine s_iload_n C 35 dX6_add_34 rfl rfl ?_
      exact s_iret C dX6_add_35 Tr rfl ⟨by rw [if_pos z7, if_pos hnn]; rfl, by rw [if_neg hno, if_neg hno, if_neg hno, if_neg hno]; exact hz2, (((hFx.mono (fun t ht => by first | (rw [mem_TH] at ht; rw [mem_TZ]; omega) | (simp at ht; done) | (rw [mem_TZ]; simp at ht; omega)))).tr (hFp.mono (fun t ht => by first | (rw [mem_TH] at ht; rw [mem_TZ]; omega) | (simp at ht; done) | (rw [mem_TZ]; simp at ht; omega))))⟩
  · skip
    have hno : ¬ (itB g n = true ∧ ¬ refV T ln fl (fun j => g (0 + j)) n < 0) := fun w7 => by have w8 := w7.1; rw [z7] at w8; cases w8
    refine s_bipush C 12 (-5) dX6_add_10 rfl (by decide) ?_
    exact s_iret C dX6_add_12 Tr rfl ⟨by rw [if_neg (by rw [z7]; decide)], by rw [if_neg hno, if_neg hno, if_neg hno, if_neg hno]; exact ⟨_, _, _, _, _, _, _, s, tr, h, tx, rk, sy, hZ, hs0, ⟨_, htr⟩, hh, ⟨_, _, _, _, _, hx⟩, hk, ⟨_, hy⟩, hch⟩, (hFx.mono (fun t ht => by first | (rw [mem_TH] at ht; rw [mem_TZ]; omega) | (simp at ht; done) | (rw [mem_TZ]; simp at ht; omega)))⟩
