/-! the reference while it carries out a plan -/
def rkX (x : mSt) : Nat × (Nat → Nat) := rkN x.1 x.2.1 x.2.2.1 x.2.2.2.1 x.2.2.2.2.1 x.2.2.2.2.2.1 x.2.2.2.2.2.2.1 x.2.2.2.2.2.2.2 x.1
def nC (M : mM) (m : Nat) (x : mSt) (c : Nat) (hs : Nat → mSt) (tl : Nat) (g : Nat → Int32) (ap : Nat) (cm : Int32) (nu be en kk : Nat) : Prop := ∃ (sa ha xa ra la qa al ka rm pa : Nat) (fs fe : Int32) (za wa ua : Nat) (S H xt so sn Q K P Z W U : Nat → Int32), M m = some (300, .inl (8, nL sa ha c xa tl ra la qa al ka rm pa fs fe za wa ua ap cm nu be en)) ∧ M sa = some (301, .inr (0, 444, .inl S)) ∧ SRx S x ∧ M ha = some (302, .inr (0, 2664, .inl H)) ∧ hRow H c hs ∧ c ≤ 6 ∧ M xa = some (303, .inr (0, 80, .inl xt)) ∧ (∀ k, k < tl → xt k = g k) ∧ tl ≤ 80 ∧ M ra = some (304, .inr (0, 384, .inl so)) ∧ M la = some (305, .inr (0, 16, .inl sn)) ∧ M qa = some (306, .inr (0, 24, .inl Q)) ∧ M ka = some (307, .inr (0, 16, .inl K)) ∧ M pa = some (308, .inr (0, 16, .inl P)) ∧ M za = some (309, .inr (0, 16, .inl Z)) ∧ M wa = some (310, .inr (0, 16, .inl W)) ∧ M ua = some (311, .inr (0, 25, .inl U)) ∧ okS x ∧ (kk = 5 → ∀ j, j < (rkX x).1 → K j = nI ((rkX x).2 j))
theorem nC.get {M : mM} {m T mo od ql c tl : Nat} {q : Nat → Int32} {ln : Nat → Nat} {fl : Nat → Nat → Int32} {us : Nat → Int32} {hs : Nat → mSt} {g : Nat → Int32} {ap : Nat} {cm : Int32} {nu be en kk : Nat} (h : nC M m (T, mo, od, ql, q, ln, fl, us) c hs tl g ap cm nu be en kk) : ∃ (sa ha xa ra la qa al ka rm pa : Nat) (fs fe : Int32) (za wa ua : Nat) (S H xt so sn Q K P Z W U : Nat → Int32), M m = some (300, .inl (8, nL sa ha c xa tl ra la qa al ka rm pa fs fe za wa ua ap cm nu be en)) ∧ M sa = some (301, .inr (0, 444, .inl S)) ∧ SR S T mo od ql q ln fl us ∧ M ha = some (302, .inr (0, 2664, .inl H)) ∧ hRow H c hs ∧ c ≤ 6 ∧ M xa = some (303, .inr (0, 80, .inl xt)) ∧ (∀ k, k < tl → xt k = g k) ∧ tl ≤ 80 ∧ M ra = some (304, .inr (0, 384, .inl so)) ∧ M la = some (305, .inr (0, 16, .inl sn)) ∧ M qa = some (306, .inr (0, 24, .inl Q)) ∧ M ka = some (307, .inr (0, 16, .inl K)) ∧ M pa = some (308, .inr (0, 16, .inl P)) ∧ M za = some (309, .inr (0, 16, .inl Z)) ∧ M wa = some (310, .inr (0, 16, .inl W)) ∧ M ua = some (311, .inr (0, 25, .inl U)) ∧ okX T mo od ql q ln fl ∧ (kk = 5 → ∀ j, j < (rkN T mo od ql q ln fl us T).1 → K j = nI ((rkN T mo od ql q ln fl us T).2 j)) := h
theorem nC_rv {G : mG} {M : mM} {m : Nat} {x : mSt} {c : Nat} {hs : Nat → mSt} {tl : Nat} {g : Nat → Int32} {ap : Nat} {cm : Int32} {nu be en kk : Nat} (h : nC M m x c hs tl g ap cm nu be en kk) : mRv G M RX7 m := by
  obtain ⟨sa, ha, xa, ra, la, qa, al, ka, rm, pa, fs, fe, za, wa, ua, S, H, xt, so, sn, Q, K, P, Z, W, U, hO, -⟩ := h
  exact mRv_of hO rfl
theorem nC.R {M : mM} {m : Nat} {x : mSt} {c : Nat} {hs : Nat → mSt} {tl : Nat} {g : Nat → Int32} {ap : Nat} {cm : Int32} {nu be en kk : Nat} (h : nC M m x c hs tl g ap cm nu be en kk) : nR M m x c hs tl g := by
  obtain ⟨sa, ha, xa, ra, la, qa, al, ka, rm, pa, fs, fe, za, wa, ua, S, H, xt, so, sn, Q, K, P, Z, W, U, hO, hS, hx, hH, hHr, hc6, hX, hXg, htl, hSo, hSn, hQ, hK, hP, hZ, hW, hU, hok, -⟩ := h
  exact ⟨_, _, _, _, _, _, _, _, _, _, _, _, _, _, _, _, _, _, _, _, _, _, _, _, _, _, _, _, _, _, _, hO, hS, hx, hH, hHr, hc6, hX, hXg, htl, hSo, hSn, hQ, hK, hP, hZ, hW, hU, hok⟩
/-- what a command needs -/
def obH (k nu be en tl : Nat) (g : Nat → Int32) : Prop := k < 7 ∧ ((k = 1 ∨ k = 2 ∨ k = 3 ∨ k = 5) → nu < 100) ∧ (k = 2 → nu < 4) ∧ (k = 3 → nu < 3) ∧ ((k = 0 ∨ k = 4) → be ≤ en ∧ en ≤ tl ∧ TV (en - be) (fun j => g (be + j)))
theorem obX_1 {T mo od ql v fr to : Nat} {q : Nat → Int32} {ln : Nat → Nat} {fl : Nat → Nat → Int32} {us : Nat → Int32} {g : Nat → Int32} : obX (T, mo, od, ql, q, ln, fl, us) 1 v fr to g = if v < T then some (stDrop T mo od ql q ln fl us v) else none := rfl
theorem obX_5 {T mo od ql v fr to : Nat} {q : Nat → Int32} {ln : Nat → Nat} {fl : Nat → Nat → Int32} {us : Nat → Int32} {g : Nat → Int32} : obX (T, mo, od, ql, q, ln, fl, us) 5 v fr to g = if v < (rkN T mo od ql q ln fl us T).1 then some (T, mo, od, 0, q, ln, fl, adF us ((rkN T mo od ql q ln fl us T).2 v) (us ((rkN T mo od ql q ln fl us T).2 v) + nI 1)) else none := rfl
theorem refV_0 {T : Nat} {ln : Nat → Nat} {fl : Nat → Nat → Int32} {f : Nat → Int32} {n : Nat} : refV T ln fl f n = 0 ↔ ¬ refV T ln fl f n < 0 := by
  rcases refV_c (T := T) (ln := ln) (fl := fl) (f := f) (n := n) with (h | h) | h
  · rw [h]; exact ⟨fun w => absurd w (by decide), fun w => absurd (by decide) w⟩
  · rw [h]; exact ⟨fun w => absurd w (by decide), fun w => absurd (by decide) w⟩
  · rw [h.1]; exact ⟨fun _ => by decide, fun _ => nI_0⟩
theorem TV_q {n : Nat} {f : Nat → Int32} (h : TV n f) : ∀ k, k + 1 < n → f k = nI 32 → f (k + 1) ≠ nI 32 := h.2.2.2.2.1
/-- nothing can be read at the text's end -/
theorem cmO_end {g : Nat → Int32} {n : Nat} : cmO g n n = false := by
  have hty : ∀ k, k < 1000 → ¬ tyA g n n = nI k := fun k hk w => by
    have := ((tyA_eq (by omega)).mp w).1
    omega
  refine (cm_half (po_none (g := g) (n := n) (p := n) 7 0 0 (fun j h1 h2 => ?_))).1
  have h5 : mW0 g n n j = 0 := mW0_0 (by omega) (hty _ (by have := (wd_c j (by omega)); have := this.2.2 0 (by omega); omega))
  have h6 := (wd_c j (by omega)).1
  omega
theorem ffO_none {g : Nat → Int32} {n fu p : Nat} (h : ffO g n (fu + 1) p = none) : cmO g n p = true ∧ (n ≤ cmA g n p ∨ (scB g n (cmA g n p) = true ∧ ffO g n fu (cmA g n p + 1) = none)) := by
  rw [ffO] at h
  by_cases h1 : cmO g n p = true
  · rw [if_pos h1] at h
    refine ⟨h1, ?_⟩
    by_cases h2 : n ≤ cmA g n p
    · exact Or.inl h2
    · rw [if_neg h2] at h
      by_cases h3 : scB g n (cmA g n p) = true
      · rw [if_pos h3] at h; exact Or.inr ⟨h3, h⟩
      · rw [if_neg h3] at h; cases h
  · rw [if_neg h1] at h; cases h
theorem cmP_lt {g : Nat → Int32} {n p : Nat} (hp : p ≤ n) (h : cmO g n p = true) : p < cmA g n p := by
  have hA := cmA_le (g := g) hp
  obtain ⟨k, hK, hk⟩ := cmO_k hp h
  have hl : p + 1 ≤ cmP g n p := by
    have h1 : ∀ (fu a most : Nat), a + fu ≤ 14 → ∀ j, (po g n p a fu most).1 = some j → p + 1 ≤ (po g n p a fu most).2 := by
      intro fu
      induction fu with
      | zero => intro a most _ j hj; cases hj
      | succ fu ih =>
        intro a most ha j hj
        rw [po] at hj ⊢
        by_cases e : mW0 g n p a = wdL a
        · rw [if_pos e]
          have := (wd_c a (by omega)).1
          show p + 1 ≤ p + wdL a
          omega
        · rw [if_neg e] at hj ⊢
          exact ih (a + 1) _ (by omega) j hj
    exact h1 7 0 0 (by omega) k hK
  omega
set_option maxRecDepth 100000 in
set_option maxHeartbeats 4000000 in
theorem nn_init {G : mG} {M : mM} {m : Nat} {hs : Nat → mSt} (hO : M m = some (300, .inl (8, [.null, .null, .int 0, .null, .int 0, .null, .null, .null, .int 0, .null, .int 0, .null, .int 0, .int 0, .null, .null, .null, .int 0, .int 0, .int 0, .int 0, .int 0]))) : CC G iX7_init 11 3701 [.ref m] M (fun r M1 => r = none ∧ nR M1 m st0 0 hs 0 (fun _ => 0) ∧ mZ TM M M1) := by
  refine CC.of rfl (Nat.le_of_ble_eq_true rfl) rfl (fun X C Tr => ?_)
  show V X 11 3701 0 [some (.ref m)] [] M
  have hF : mZ TM M M := mZ.rf
  refine s_aload_n C 1 dX7_init_0 rfl rfl ?_
  refine s_oi C 4 dX7_init_1 rfl oi_X7_1 rfl (by decide) (Nat.le_of_ble_eq_true rfl) ?_
  refine s_aload_n C 5 dX7_init_4 rfl rfl ?_
  refine s_sipush C 8 (nI 444) dX7_init_5 rfl (by decide) ?_
  refine s_newaU C 10 10 3257 301 dX7_init_8 rfl (Or.inl ⟨rfl, rfl, ac_int⟩) (by omega) (by first | decide | omega) (by omega) (by omega) (fun sa M1 hnsa U2 => ?_)
  have hO := U2.n hnsa hO
  have hnsa0 := hF.no hnsa
  have hF := hF.new U2 hnsa
  have hS := U2.s
  refine s_putFU C 13 dX7_init_10 rfl p_X7_7 rfl hO (by first | decide | omega) rfl rfl rfl (fs' := [.ref sa, .null, .int 0, .null, .int 0, .null, .null, .null, .int 0, .null, .int 0, .null, .int 0, .int 0, .null, .null, .null, .int 0, .int 0, .int 0, .int 0, .int 0]) rfl (fun M3 U4 => ?_)
  have hS := U4.o hO hS (by first | decide | omega)
  have hF := hF.put U4 hO (by first | decide | (simp; done) | (simp; omega) | (simp [*]; done))
  have hO := U4.s
  refine s_aload_n C 14 dX7_init_13 rfl rfl ?_
  refine s_sipush C 17 (nI 2664) dX7_init_14 rfl (by decide) ?_
  refine s_newaU C 19 9 593 302 dX7_init_17 rfl (Or.inl ⟨rfl, rfl, ac_int⟩) (by omega) (by first | decide | omega) (by omega) (by omega) (fun ha M5 hnha U6 => ?_)
  have hO := U6.n hnha hO
  have hS := U6.n hnha hS
  have hnha0 := hF.no hnha
  have hF := hF.new U6 hnha
  have hH := U6.s
  refine s_putFU C 22 dX7_init_19 rfl p_X7_13 rfl hO (by first | decide | omega) rfl rfl rfl (fs' := [.ref sa, .ref ha, .int 0, .null, .int 0, .null, .null, .null, .int 0, .null, .int 0, .null, .int 0, .int 0, .null, .null, .null, .int 0, .int 0, .int 0, .int 0, .int 0]) rfl (fun M7 U8 => ?_)
  have hS := U8.o hO hS (by first | decide | omega)
  have hH := U8.o hO hH (by first | decide | omega)
  have hF := hF.put U8 hO (by first | decide | (simp; done) | (simp; omega) | (simp [*]; done))
  have hO := U8.s
  refine s_aload_n C 23 dX7_init_22 rfl rfl ?_
  refine s_bipush C 25 (nI 80) dX7_init_23 rfl (by decide) ?_
  refine s_newaU C 27 8 513 303 dX7_init_25 rfl (Or.inl ⟨rfl, rfl, ac_int⟩) (by omega) (by first | decide | omega) (by omega) (by omega) (fun xa M9 hnxa U10 => ?_)
  have hO := U10.n hnxa hO
  have hS := U10.n hnxa hS
  have hH := U10.n hnxa hH
  have hnxa0 := hF.no hnxa
  have hF := hF.new U10 hnxa
  have hX := U10.s
  refine s_putFU C 30 dX7_init_27 rfl p_X7_16 rfl hO (by first | decide | omega) rfl rfl rfl (fs' := [.ref sa, .ref ha, .int 0, .ref xa, .int 0, .null, .null, .null, .int 0, .null, .int 0, .null, .int 0, .int 0, .null, .null, .null, .int 0, .int 0, .int 0, .int 0, .int 0]) rfl (fun M11 U12 => ?_)
  have hS := U12.o hO hS (by first | decide | omega)
  have hH := U12.o hO hH (by first | decide | omega)
  have hX := U12.o hO hX (by first | decide | omega)
  have hF := hF.put U12 hO (by first | decide | (simp; done) | (simp; omega) | (simp [*]; done))
  have hO := U12.s
  refine s_aload_n C 31 dX7_init_30 rfl rfl ?_
  refine s_sipush C 34 (nI 384) dX7_init_31 rfl (by decide) ?_
  refine s_newaU C 36 7 129 304 dX7_init_34 rfl (Or.inl ⟨rfl, rfl, ac_int⟩) (by omega) (by first | decide | omega) (by omega) (by omega) (fun ra M13 hnra U14 => ?_)
  have hO := U14.n hnra hO
  have hS := U14.n hnra hS
  have hH := U14.n hnra hH
  have hX := U14.n hnra hX
  have hnra0 := hF.no hnra
  have hF := hF.new U14 hnra
  have hSo := U14.s
  refine s_putFU C 39 dX7_init_36 rfl p_X7_19 rfl hO (by first | decide | omega) rfl rfl rfl (fs' := [.ref sa, .ref ha, .int 0, .ref xa, .int 0, .ref ra, .null, .null, .int 0, .null, .int 0, .null, .int 0, .int 0, .null, .null, .null, .int 0, .int 0, .int 0, .int 0, .int 0]) rfl (fun M15 U16 => ?_)
  have hS := U16.o hO hS (by first | decide | omega)
  have hH := U16.o hO hH (by first | decide | omega)
  have hX := U16.o hO hX (by first | decide | omega)
  have hSo := U16.o hO hSo (by first | decide | omega)
  have hF := hF.put U16 hO (by first | decide | (simp; done) | (simp; omega) | (simp [*]; done))
  have hO := U16.s
  refine s_aload_n C 40 dX7_init_39 rfl rfl ?_
  refine s_bipush C 42 (nI 16) dX7_init_40 rfl (by decide) ?_
  refine s_newaU C 44 6 113 305 dX7_init_42 rfl (Or.inl ⟨rfl, rfl, ac_int⟩) (by omega) (by first | decide | omega) (by omega) (by omega) (fun la M17 hnla U18 => ?_)
  have hO := U18.n hnla hO
  have hS := U18.n hnla hS
  have hH := U18.n hnla hH
  have hX := U18.n hnla hX
  have hSo := U18.n hnla hSo
  have hnla0 := hF.no hnla
  have hF := hF.new U18 hnla
  have hSn := U18.s
  refine s_putFU C 47 dX7_init_44 rfl p_X7_22 rfl hO (by first | decide | omega) rfl rfl rfl (fs' := [.ref sa, .ref ha, .int 0, .ref xa, .int 0, .ref ra, .ref la, .null, .int 0, .null, .int 0, .null, .int 0, .int 0, .null, .null, .null, .int 0, .int 0, .int 0, .int 0, .int 0]) rfl (fun M19 U20 => ?_)
  have hS := U20.o hO hS (by first | decide | omega)
  have hH := U20.o hO hH (by first | decide | omega)
  have hX := U20.o hO hX (by first | decide | omega)
  have hSo := U20.o hO hSo (by first | decide | omega)
  have hSn := U20.o hO hSn (by first | decide | omega)
  have hF := hF.put U20 hO (by first | decide | (simp; done) | (simp; omega) | (simp [*]; done))
  have hO := U20.s
  refine s_aload_n C 48 dX7_init_47 rfl rfl ?_
  refine s_bipush C 50 (nI 24) dX7_init_48 rfl (by decide) ?_
  refine s_newaU C 52 5 89 306 dX7_init_50 rfl (Or.inl ⟨rfl, rfl, ac_int⟩) (by omega) (by first | decide | omega) (by omega) (by omega) (fun qa M21 hnqa U22 => ?_)
  have hO := U22.n hnqa hO
  have hS := U22.n hnqa hS
  have hH := U22.n hnqa hH
  have hX := U22.n hnqa hX
  have hSo := U22.n hnqa hSo
  have hSn := U22.n hnqa hSn
  have hnqa0 := hF.no hnqa
  have hF := hF.new U22 hnqa
  have hQ := U22.s
  refine s_putFU C 55 dX7_init_52 rfl p_X7_25 rfl hO (by first | decide | omega) rfl rfl rfl (fs' := [.ref sa, .ref ha, .int 0, .ref xa, .int 0, .ref ra, .ref la, .ref qa, .int 0, .null, .int 0, .null, .int 0, .int 0, .null, .null, .null, .int 0, .int 0, .int 0, .int 0, .int 0]) rfl (fun M23 U24 => ?_)
  have hS := U24.o hO hS (by first | decide | omega)
  have hH := U24.o hO hH (by first | decide | omega)
  have hX := U24.o hO hX (by first | decide | omega)
  have hSo := U24.o hO hSo (by first | decide | omega)
  have hSn := U24.o hO hSn (by first | decide | omega)
  have hQ := U24.o hO hQ (by first | decide | omega)
  have hF := hF.put U24 hO (by first | decide | (simp; done) | (simp; omega) | (simp [*]; done))
  have hO := U24.s
  refine s_aload_n C 56 dX7_init_55 rfl rfl ?_
  refine s_bipush C 58 (nI 16) dX7_init_56 rfl (by decide) ?_
  refine s_newaU C 60 4 73 307 dX7_init_58 rfl (Or.inl ⟨rfl, rfl, ac_int⟩) (by omega) (by first | decide | omega) (by omega) (by omega) (fun ka M25 hnka U26 => ?_)
  have hO := U26.n hnka hO
  have hS := U26.n hnka hS
  have hH := U26.n hnka hH
  have hX := U26.n hnka hX
  have hSo := U26.n hnka hSo
  have hSn := U26.n hnka hSn
  have hQ := U26.n hnka hQ
  have hnka0 := hF.no hnka
  have hF := hF.new U26 hnka
  have hK := U26.s
  refine s_putFU C 63 dX7_init_60 rfl p_X7_28 rfl hO (by first | decide | omega) rfl rfl rfl (fs' := [.ref sa, .ref ha, .int 0, .ref xa, .int 0, .ref ra, .ref la, .ref qa, .int 0, .ref ka, .int 0, .null, .int 0, .int 0, .null, .null, .null, .int 0, .int 0, .int 0, .int 0, .int 0]) rfl (fun M27 U28 => ?_)
  have hS := U28.o hO hS (by first | decide | omega)
  have hH := U28.o hO hH (by first | decide | omega)
  have hX := U28.o hO hX (by first | decide | omega)
  have hSo := U28.o hO hSo (by first | decide | omega)
  have hSn := U28.o hO hSn (by first | decide | omega)
  have hQ := U28.o hO hQ (by first | decide | omega)
  have hK := U28.o hO hK (by first | decide | omega)
  have hF := hF.put U28 hO (by first | decide | (simp; done) | (simp; omega) | (simp [*]; done))
  have hO := U28.s
  refine s_aload_n C 64 dX7_init_63 rfl rfl ?_
  refine s_bipush C 66 (nI 16) dX7_init_64 rfl (by decide) ?_
  refine s_newaU C 68 3 57 308 dX7_init_66 rfl (Or.inl ⟨rfl, rfl, ac_int⟩) (by omega) (by first | decide | omega) (by omega) (by omega) (fun pa M29 hnpa U30 => ?_)
  have hO := U30.n hnpa hO
  have hS := U30.n hnpa hS
  have hH := U30.n hnpa hH
  have hX := U30.n hnpa hX
  have hSo := U30.n hnpa hSo
  have hSn := U30.n hnpa hSn
  have hQ := U30.n hnpa hQ
  have hK := U30.n hnpa hK
  have hnpa0 := hF.no hnpa
  have hF := hF.new U30 hnpa
  have hP := U30.s
  refine s_putFU C 71 dX7_init_68 rfl p_X7_31 rfl hO (by first | decide | omega) rfl rfl rfl (fs' := [.ref sa, .ref ha, .int 0, .ref xa, .int 0, .ref ra, .ref la, .ref qa, .int 0, .ref ka, .int 0, .ref pa, .int 0, .int 0, .null, .null, .null, .int 0, .int 0, .int 0, .int 0, .int 0]) rfl (fun M31 U32 => ?_)
  have hS := U32.o hO hS (by first | decide | omega)
  have hH := U32.o hO hH (by first | decide | omega)
  have hX := U32.o hO hX (by first | decide | omega)
  have hSo := U32.o hO hSo (by first | decide | omega)
  have hSn := U32.o hO hSn (by first | decide | omega)
  have hQ := U32.o hO hQ (by first | decide | omega)
  have hK := U32.o hO hK (by first | decide | omega)
  have hP := U32.o hO hP (by first | decide | omega)
  have hF := hF.put U32 hO (by first | decide | (simp; done) | (simp; omega) | (simp [*]; done))
  have hO := U32.s
  refine s_aload_n C 72 dX7_init_71 rfl rfl ?_
  refine s_bipush C 74 (nI 16) dX7_init_72 rfl (by decide) ?_
  refine s_newaU C 76 2 41 309 dX7_init_74 rfl (Or.inl ⟨rfl, rfl, ac_int⟩) (by omega) (by first | decide | omega) (by omega) (by omega) (fun za M33 hnza U34 => ?_)
  have hO := U34.n hnza hO
  have hS := U34.n hnza hS
  have hH := U34.n hnza hH
  have hX := U34.n hnza hX
  have hSo := U34.n hnza hSo
  have hSn := U34.n hnza hSn
  have hQ := U34.n hnza hQ
  have hK := U34.n hnza hK
  have hP := U34.n hnza hP
  have hnza0 := hF.no hnza
  have hF := hF.new U34 hnza
  have hZ := U34.s
  refine s_putFU C 79 dX7_init_76 rfl p_X7_34 rfl hO (by first | decide | omega) rfl rfl rfl (fs' := [.ref sa, .ref ha, .int 0, .ref xa, .int 0, .ref ra, .ref la, .ref qa, .int 0, .ref ka, .int 0, .ref pa, .int 0, .int 0, .ref za, .null, .null, .int 0, .int 0, .int 0, .int 0, .int 0]) rfl (fun M35 U36 => ?_)
  have hS := U36.o hO hS (by first | decide | omega)
  have hH := U36.o hO hH (by first | decide | omega)
  have hX := U36.o hO hX (by first | decide | omega)
  have hSo := U36.o hO hSo (by first | decide | omega)
  have hSn := U36.o hO hSn (by first | decide | omega)
  have hQ := U36.o hO hQ (by first | decide | omega)
  have hK := U36.o hO hK (by first | decide | omega)
  have hP := U36.o hO hP (by first | decide | omega)
  have hZ := U36.o hO hZ (by first | decide | omega)
  have hF := hF.put U36 hO (by first | decide | (simp; done) | (simp; omega) | (simp [*]; done))
  have hO := U36.s
  refine s_aload_n C 80 dX7_init_79 rfl rfl ?_
  refine s_bipush C 82 (nI 16) dX7_init_80 rfl (by decide) ?_
  refine s_newaU C 84 1 25 310 dX7_init_82 rfl (Or.inl ⟨rfl, rfl, ac_int⟩) (by omega) (by first | decide | omega) (by omega) (by omega) (fun wa M37 hnwa U38 => ?_)
  have hO := U38.n hnwa hO
  have hS := U38.n hnwa hS
  have hH := U38.n hnwa hH
  have hX := U38.n hnwa hX
  have hSo := U38.n hnwa hSo
  have hSn := U38.n hnwa hSn
  have hQ := U38.n hnwa hQ
  have hK := U38.n hnwa hK
  have hP := U38.n hnwa hP
  have hZ := U38.n hnwa hZ
  have hnwa0 := hF.no hnwa
  have hF := hF.new U38 hnwa
  have hW := U38.s
  refine s_putFU C 87 dX7_init_84 rfl p_X7_37 rfl hO (by first | decide | omega) rfl rfl rfl (fs' := [.ref sa, .ref ha, .int 0, .ref xa, .int 0, .ref ra, .ref la, .ref qa, .int 0, .ref ka, .int 0, .ref pa, .int 0, .int 0, .ref za, .ref wa, .null, .int 0, .int 0, .int 0, .int 0, .int 0]) rfl (fun M39 U40 => ?_)
  have hS := U40.o hO hS (by first | decide | omega)
  have hH := U40.o hO hH (by first | decide | omega)
  have hX := U40.o hO hX (by first | decide | omega)
  have hSo := U40.o hO hSo (by first | decide | omega)
  have hSn := U40.o hO hSn (by first | decide | omega)
  have hQ := U40.o hO hQ (by first | decide | omega)
  have hK := U40.o hO hK (by first | decide | omega)
  have hP := U40.o hO hP (by first | decide | omega)
  have hZ := U40.o hO hZ (by first | decide | omega)
  have hW := U40.o hO hW (by first | decide | omega)
  have hF := hF.put U40 hO (by first | decide | (simp; done) | (simp; omega) | (simp [*]; done))
  have hO := U40.s
  refine s_aload_n C 88 dX7_init_87 rfl rfl ?_
  refine s_bipush C 90 (nI 25) dX7_init_88 rfl (by decide) ?_
  refine s_newaU C 92 0 0 311 dX7_init_90 rfl (Or.inl ⟨rfl, rfl, ac_int⟩) (by omega) (by first | decide | omega) (by omega) (by omega) (fun ua M41 hnua U42 => ?_)
  have hO := U42.n hnua hO
  have hS := U42.n hnua hS
  have hH := U42.n hnua hH
  have hX := U42.n hnua hX
  have hSo := U42.n hnua hSo
  have hSn := U42.n hnua hSn
  have hQ := U42.n hnua hQ
  have hK := U42.n hnua hK
  have hP := U42.n hnua hP
  have hZ := U42.n hnua hZ
  have hW := U42.n hnua hW
  have hnua0 := hF.no hnua
  have hF := hF.new U42 hnua
  have hU := U42.s
  refine s_putFU C 95 dX7_init_92 rfl p_X7_40 rfl hO (by first | decide | omega) rfl rfl rfl (fs' := [.ref sa, .ref ha, .int 0, .ref xa, .int 0, .ref ra, .ref la, .ref qa, .int 0, .ref ka, .int 0, .ref pa, .int 0, .int 0, .ref za, .ref wa, .ref ua, .int 0, .int 0, .int 0, .int 0, .int 0]) rfl (fun M43 U44 => ?_)
  have hS := U44.o hO hS (by first | decide | omega)
  have hH := U44.o hO hH (by first | decide | omega)
  have hX := U44.o hO hX (by first | decide | omega)
  have hSo := U44.o hO hSo (by first | decide | omega)
  have hSn := U44.o hO hSn (by first | decide | omega)
  have hQ := U44.o hO hQ (by first | decide | omega)
  have hK := U44.o hO hK (by first | decide | omega)
  have hP := U44.o hO hP (by first | decide | omega)
  have hZ := U44.o hO hZ (by first | decide | omega)
  have hW := U44.o hO hW (by first | decide | omega)
  have hU := U44.o hO hU (by first | decide | omega)
  have hF := hF.put U44 hO (by first | decide | (simp; done) | (simp; omega) | (simp [*]; done))
  have hO := U44.s
  exact s_vret C dX7_init_95 Tr rfl ⟨rfl, ⟨_, _, _, _, _, _, _, _, _, _, _, _, _, _, _, _, _, _, _, _, _, _, _, _, _, _, _, _, _, _, _, hO, hS, ⟨nI_0.symm, nI_0.symm, nI_0.symm, nI_0.symm, fun k hk => absurd hk (Nat.not_lt_zero _), fun t ht => absurd ht (Nat.not_lt_zero _)⟩, hH, (fun j hj => absurd hj (Nat.not_lt_zero _)), (Nat.zero_le _), hX, (fun k hk => absurd hk (Nat.not_lt_zero _)), (Nat.zero_le _), hSo, hSn, hQ, hK, hP, hZ, hW, hU, ⟨Nat.zero_le _, by decide, by decide, Nat.zero_le _, fun t ht => absurd ht (Nat.not_lt_zero _), fun t u ht => absurd ht (Nat.not_lt_zero _), fun k hk => absurd hk (Nat.not_lt_zero _)⟩⟩, hF⟩

set_option maxRecDepth 100000 in
set_option maxHeartbeats 4000000 in
theorem nn_ifAdded {G : mG} {M : mM} {m T mo od ql c tl : Nat} {q : Nat → Int32} {ln : Nat → Nat} {fl : Nat → Nat → Int32} {us : Nat → Int32} {hs : Nat → mSt} {g : Nat → Int32} (hn : nR M m (T, mo, od, ql, q, ln, fl, us) c hs tl g)  : CC G iX7_ifAdded 0 0 [.ref m] M (fun r M1 => r = some (.int (if itB g tl = true then (if refV T ln fl (fun j => g (0 + j)) tl < 0 then refV T ln fl (fun j => g (0 + j)) tl else nI (chN T mo ln fl tl (fun j => g (0 + j)) T)) else -5)) ∧ nR M1 m (T, mo, od, ql, q, ln, fl, us) c hs tl g ∧ mZ TM M M1) := by
  refine CC.of rfl (Nat.le_of_ble_eq_true rfl) rfl (fun X C Tr => ?_)
  show V X 0 0 0 [some (.ref m), none, none, none, none] [] M
  obtain ⟨sa, ha, xa, ra, la, qa, al, ka, rm, pa, fs, fe, za, wa, ua, ap, cm, nu, be, en, S, H, xt, so, sn, Q, K, P, Z, W, U, hO, hS, hx, hH, hHr, hc6, hX, hXg, htl, hSo, hSn, hQ, hK, hP, hZ, hW, hU, hok⟩ := hn.get
  have hx8 := hx
  obtain ⟨hx0, hx1, hx2, hx3, hxq, hxt⟩ := hx
  have hT16 := hok.T16
  have hm4 := hok.m4
  have ho3 := hok.o3
  have hq24 := hok.q24
  refine s_aload_n C 1 dX7_ifAdded_0 rfl rfl ?_
  refine s_invV C 4 0 0 [] (mRv_of hO rfl) dX7_ifAdded_1 rfl m_X7_240 (n_whyTyped hO hS hx8 hok hX hXg htl) rfl rfl rfl ⟨by decide, by decide⟩ (Nat.le_of_ble_eq_true rfl) (by omega) (by omega) ?_
  rintro _ M1 ⟨rfl, hO6, hFw⟩
  dsimp only [Option.toList, List.cons_append, List.nil_append]
  obtain ⟨ap7, be7, en7, hO7⟩ := hO6
  have hS := hFw.at hS (by decide)
  have hX := hFw.at hX (by decide)
  have hSo := hFw.at hSo (by decide)
  have hSn := hFw.at hSn (by decide)
  have hH := hFw.at hH (by decide)
  have hQ := hFw.at hQ (by decide)
  have hK := hFw.at hK (by decide)
  have hP := hFw.at hP (by decide)
  have hZ := hFw.at hZ (by decide)
  have hW := hFw.at hW (by decide)
  have hU := hFw.at hU (by decide)
  have hO := hO7
  refine s_istore_n C 5 dX7_ifAdded_4 rfl rfl rfl ?_
  dsimp only [List.set]
  refine s_iload_n C 6 dX7_ifAdded_5 rfl rfl ?_
  refine s_if_ge C 11 9 dX7_ifAdded_6 (by decide) rfl (fun z6 => ?_) (fun z6 => ?_)
  · skip
    have hI : itB g tl = true := by by_cases hI : itB g tl = true; (· exact hI); rw [if_neg hI] at z6; exact absurd z6 (by decide)
    have hN : ¬ refV T ln fl (fun j => g (0 + j)) tl < 0 := by rw [if_pos hI] at z6; exact i32_le.mp z6
    have hyes : (itB g tl = true ∧ ¬ refV T ln fl (fun j => g (0 + j)) tl < 0) := ⟨hI, hN⟩
    obtain ⟨-, hTV, hn24⟩ := itB_TV hI
    obtain ⟨-, hdp, hT15⟩ := (refV_lt (T := T) (ln := ln) (fl := fl) (f := (fun j => g (0 + j))) (n := tl)).resolve_left hN
    refine s_aload_n C 12 dX7_ifAdded_11 rfl rfl ?_
    refine s_invV C 15 0 0 [] (mRv_of hO rfl) dX7_ifAdded_12 rfl m_X7_252 (n_findKeys hO hS hx8 hok hSo hSn hQ hP hZ hW) rfl rfl rfl ⟨by decide, by decide⟩ (Nat.le_of_ble_eq_true rfl) (by omega) (by omega) ?_
    rintro _ M2 ⟨rfl, hO6, ⟨so7, sn7, hSo7, hSn7, hsr⟩, ⟨Q7, hQ7⟩, ⟨P7, hP7⟩, ⟨Z7, W7, hZ7, hW7, hZW⟩, hFk⟩
    dsimp only [Option.toList, List.cons_append, List.nil_append]
    obtain ⟨al7, fs7, fe7, hO7⟩ := hO6
    have hS := hFk.at hS (by decide)
    have hX := hFk.at hX (by decide)
    have hH := hFk.at hH (by decide)
    have hK := hFk.at hK (by decide)
    have hU := hFk.at hU (by decide)
    have hO := hO7
    have hSo := hSo7
    have hSn := hSn7
    have hQ := hQ7
    have hP := hP7
    have hZ := hZ7
    have hW := hW7
    have hWk := fun u hu => (hZW u hu).2
    refine s_aload_n C 16 dX7_ifAdded_15 rfl rfl ?_
    refine s_getf C 19 dX7_ifAdded_16 rfl f_X7_7 hO rfl ?_
    refine s_iconst C 20 (nI 0) dX7_ifAdded_19 rfl (by decide) ?_
    refine s_iald C 21 dX7_ifAdded_20 rfl hS (by omega) (by omega) ?_
    rw [hx0]
    refine s_istore_n C 22 dX7_ifAdded_21 rfl rfl rfl ?_
    dsimp only [List.set]
    refine s_aload_n C 23 dX7_ifAdded_22 rfl rfl ?_
    refine s_iconst C 24 (nI 0) dX7_ifAdded_23 rfl (by decide) ?_
    refine s_aload_n C 25 dX7_ifAdded_24 rfl rfl ?_
    refine s_getf C 28 dX7_ifAdded_25 rfl f_X7_120 hO rfl ?_
    refine s_invV C 31 0 0 [] (mRv_of hO rfl) dX7_ifAdded_28 rfl m_X7_222 (n_adds hO hS hx8 hok hX hXg htl (fr := 0) (to := tl) (Nat.zero_le _) (Nat.le_refl _) (by omega) hT15) rfl rfl rfl ⟨by decide, by decide⟩ (Nat.le_of_ble_eq_true rfl) (by omega) (by omega) ?_
    rintro _ M3 ⟨rfl, ⟨S5, hS5, hx5⟩, hFa⟩
    dsimp only [Option.toList, List.cons_append, List.nil_append]
    have hO := hFa.at hO (by decide)
    have hX := hFa.at hX (by decide)
    have hSo := hFa.at hSo (by decide)
    have hSn := hFa.at hSn (by decide)
    have hH := hFa.at hH (by decide)
    have hQ := hFa.at hQ (by decide)
    have hK := hFa.at hK (by decide)
    have hP := hFa.at hP (by decide)
    have hZ := hFa.at hZ (by decide)
    have hW := hFa.at hW (by decide)
    have hU := hFa.at hU (by decide)
    have hS := hS5
    have hx9 : SR S5 (T + 1) mo od ql q (adF ln T tl) (adF fl T (fun j => g (0 + j))) (adF us T (nI 0)) := hx5
    have hok9 : okX (T + 1) mo od ql q (adF ln T tl) (adF fl T (fun j => g (0 + j))) := okX_add hok hT15 hTV hdp
    refine s_pop C 32 dX7_ifAdded_31 rfl rfl ?_
    refine s_aload_n C 33 dX7_ifAdded_32 rfl rfl ?_
    refine s_invV C 36 0 0 [] (mRv_of hO rfl) dX7_ifAdded_33 rfl m_X7_87 (n_findSources hO hS hx9 hok9 hSo hSn) rfl rfl rfl ⟨by decide, by decide⟩ (Nat.le_of_ble_eq_true rfl) (by omega) (by omega) ?_
    rintro _ M4 ⟨rfl, ⟨so9, sn9, hSo9, hSn9, hsr9⟩, hFs⟩
    dsimp only [Option.toList, List.cons_append, List.nil_append]
    have hO := hFs.at hO (by decide)
    have hS := hFs.at hS (by decide)
    have hX := hFs.at hX (by decide)
    have hH := hFs.at hH (by decide)
    have hQ := hFs.at hQ (by decide)
    have hK := hFs.at hK (by decide)
    have hP := hFs.at hP (by decide)
    have hZ := hFs.at hZ (by decide)
    have hW := hFs.at hW (by decide)
    have hU := hFs.at hU (by decide)
    have hSo := hSo9
    have hSn := hSn9
    have hF : mZ TM M M4 := (((((hFw.mono (by decide)).tr (hFk.mono (by decide))).tr (hFa.mono (by decide))).tr (hFs.mono (by decide))))
    refine s_iconst C 37 (nI 0) dX7_ifAdded_36 rfl (by decide) ?_
    refine s_istore_n C 38 dX7_ifAdded_37 rfl rfl rfl ?_
    dsimp only [List.set]
    refine s_iconst C 39 (nI 0) dX7_ifAdded_38 rfl (by decide) ?_
    refine s_istore C 41 dX7_ifAdded_39 rfl rfl rfl ?_
    dsimp only [List.set]
    suffices lp41 : ∀ (fu41 : Nat) (t al9 : Nat) (fs9 fe9 : Int32) (Q9 P9 : Nat → Int32) (M9 : mM), T - t < fu41 → t ≤ T → M9 m = some (300, .inl (8, [.ref sa, .ref ha, .int (nI c), .ref xa, .int (nI tl), .ref ra, .ref la, .ref qa, .int (nI al9), .ref ka, .int (nI rm), .ref pa, .int fs9, .int fe9, .ref za, .ref wa, .ref ua, .int (nI ap7), .int cm, .int (nI nu), .int (nI be7), .int (nI en7)])) → M9 sa = some (301, .inr (0, 444, .inl S5)) → M9 xa = some (303, .inr (0, 80, .inl xt)) → M9 ra = some (304, .inr (0, 384, .inl so9)) → M9 la = some (305, .inr (0, 16, .inl sn9)) → M9 ha = some (302, .inr (0, 2664, .inl H)) → M9 qa = some (306, .inr (0, 24, .inl Q9)) → M9 ka = some (307, .inr (0, 16, .inl K)) → M9 pa = some (308, .inr (0, 16, .inl P9)) → M9 za = some (309, .inr (0, 16, .inl Z7)) → M9 wa = some (310, .inr (0, 16, .inl W7)) → M9 ua = some (311, .inr (0, 25, .inl U)) → mZ TM M M9 → V X 0 0 41 [some (.ref m), some (.int (if itB g tl = true then refV T ln fl (fun j => g (0 + j)) tl else -5)), some (.int (nI T)), some (.int (nI (chN T mo ln fl tl (fun j => g (0 + j)) t))), some (.int (nI t))] [] M9 from lp41 (T + 1) 0 _ _ _ _ _ _ (by omega) (by omega) hO hS hX hSo hSn hH hQ hK hP hZ hW hU hF
    intro fu41
    induction fu41 with
    | zero => intro t al9 fs9 fe9 Q9 P9 M9 ht0 ht hO hS hX hSo hSn hH hQ hK hP hZ hW hU hF; omega
    | succ fu41 ih41 =>
      intro t al9 fs9 fe9 Q9 P9 M9 ht0 ht hO hS hX hSo hSn hH hQ hK hP hZ hW hU hF
      have hcl := chN_le (T := T) (mo := mo) (ln := ln) (fl := fl) (n := tl) (f := (fun j => g (0 + j))) t
      refine s_iload C 43 dX7_ifAdded_41 rfl rfl ?_
      refine s_iload_n C 44 dX7_ifAdded_43 rfl rfl ?_
      refine s_icmp_geN C 96 47 dX7_ifAdded_44 (by decide) rfl (by omega) (by omega) (fun z44 => ?_) (fun z44 => ?_)
      · skip
        have hte : t = T := by omega
        refine s_aload_n C 97 dX7_ifAdded_96 rfl rfl ?_
        refine s_iload_n C 98 dX7_ifAdded_97 rfl rfl ?_
        refine s_invV C 101 0 0 [] (mRv_of hO rfl) dX7_ifAdded_98 rfl m_X7_225 (n_drops hO hS hx9 hok9 (t := T) (Nat.lt_succ_self T)) rfl rfl rfl ⟨by decide, by decide⟩ (Nat.le_of_ble_eq_true rfl) (by omega) (by omega) ?_
        rintro _ M5 ⟨rfl, ⟨S2, hS2, hx2⟩, hFd⟩
        dsimp only [Option.toList, List.cons_append, List.nil_append]
        have hO := hFd.at hO (by decide)
        have hX := hFd.at hX (by decide)
        have hSo := hFd.at hSo (by decide)
        have hSn := hFd.at hSn (by decide)
        have hH := hFd.at hH (by decide)
        have hQ := hFd.at hQ (by decide)
        have hK := hFd.at hK (by decide)
        have hP := hFd.at hP (by decide)
        have hZ := hFd.at hZ (by decide)
        have hW := hFd.at hW (by decide)
        have hU := hFd.at hU (by decide)
        have hS := hS2
        have hx3 : SR S2 T mo od ql q ln fl us := SR_back hx2
        have hF := hF.tr (hFd.mono (by decide))
        refine s_pop C 102 dX7_ifAdded_101 rfl rfl ?_
        refine s_iload_n C 103 dX7_ifAdded_102 rfl rfl ?_
        exact s_iret C dX7_ifAdded_103 Tr rfl ⟨by rw [if_pos hI, if_neg hN, hte], ⟨_, _, _, _, _, _, _, _, _, _, _, _, _, _, _, _, _, _, _, _, _, _, _, _, _, _, _, _, _, _, _, hO, hS, hx3, hH, hHr, hc6, hX, hXg, htl, hSo, hSn, hQ, hK, hP, hZ, hW, hU, hok⟩, hF⟩
      · skip
        refine s_aload_n C 48 dX7_ifAdded_47 rfl rfl ?_
        refine s_iload C 50 dX7_ifAdded_48 rfl rfl ?_
        refine s_iconst C 51 (nI 1) dX7_ifAdded_50 rfl (by decide) ?_
        refine s_invV C 54 0 0 [] (mRv_of hO rfl) dX7_ifAdded_51 rfl m_X7_116 (n_findKey hO hS hx9 hok9 hSo hSn hsr9 hQ hP (t := t) (by omega)) rfl rfl rfl ⟨by decide, by decide⟩ (Nat.le_of_ble_eq_true rfl) (by omega) (by omega) ?_
        rintro _ M6 ⟨rfl, hO3, ⟨Q4, hQ4⟩, ⟨P4, hP4⟩, hFp⟩
        dsimp only [Option.toList, List.cons_append, List.nil_append]
        obtain ⟨al5, hO4⟩ := hO3
        have hS := hFp.at hS (by decide)
        have hX := hFp.at hX (by decide)
        have hSo := hFp.at hSo (by decide)
        have hSn := hFp.at hSn (by decide)
        have hH := hFp.at hH (by decide)
        have hK := hFp.at hK (by decide)
        have hZ := hFp.at hZ (by decide)
        have hW := hFp.at hW (by decide)
        have hU := hFp.at hU (by decide)
        have hO := hO4
        have hQ := hQ4
        have hP := hP4
        have hF := hF.tr (hFp.mono (by decide))
        refine s_iload_n C 55 dX7_ifAdded_54 rfl rfl ?_
        refine s_aload_n C 56 dX7_ifAdded_55 rfl rfl ?_
        refine s_getf C 59 dX7_ifAdded_56 rfl f_X7_110 hO rfl ?_
        refine s_aload_n C 60 dX7_ifAdded_59 rfl rfl ?_
        refine s_getf C 63 dX7_ifAdded_60 rfl f_X7_34 hO rfl ?_
        refine s_iload C 65 dX7_ifAdded_63 rfl rfl ?_
        refine s_iald C 66 dX7_ifAdded_65 rfl hZ (by omega) (by omega) ?_
        rw [(hZW t (by omega)).1]
        refine s_icmp_ne C 87 69 dX7_ifAdded_66 (by decide) rfl (fun z66 => ?_) (fun z66 => ?_)
        · skip
          have hkq : ¬ (kyN (T + 1) mo (adF ln T tl) (adF fl T (fun j => g (0 + j))) t) = (kyN T mo ln fl t) := fun w => z66 (by rw [w])
          refine s_iconst C 88 (nI 1) dX7_ifAdded_87 rfl (by decide) ?_
          refine s_iaddN C 89 dX7_ifAdded_88 rfl ?_
          refine s_istore_n C 90 dX7_ifAdded_89 rfl rfl rfl ?_
          dsimp only [List.set]
          refine s_iinc C 93 (nI (t + 1)) dX7_ifAdded_90 rfl rfl (by rw [← nI_add]; rfl) rfl ?_
          dsimp only [List.set]
          refine s_goto C 41 dX7_ifAdded_93 (by decide) ?_
          rw [show (chN T mo ln fl tl (fun j => g (0 + j)) t) + 1 = chN T mo ln fl tl (fun j => g (0 + j)) (t + 1) by rw [chN]; first | (rw [if_pos hkq]; done) | (rw [if_neg hkq]; done)]
          exact ih41 (t + 1) _ _ _ _ _ _ (by omega) (by omega) hO hS hX hSo hSn hH hQ hK hP hZ hW hU hF
        · skip
          refine s_aload_n C 70 dX7_ifAdded_69 rfl rfl ?_
          refine s_getf C 73 dX7_ifAdded_70 rfl f_X7_113 hO rfl ?_
          refine s_aload_n C 74 dX7_ifAdded_73 rfl rfl ?_
          refine s_getf C 77 dX7_ifAdded_74 rfl f_X7_37 hO rfl ?_
          refine s_iload C 79 dX7_ifAdded_77 rfl rfl ?_
          refine s_iald C 80 dX7_ifAdded_79 rfl hW (by omega) (by omega) ?_
          rw [(hZW t (by omega)).2]
          refine s_icmp_ne C 87 83 dX7_ifAdded_80 (by decide) rfl (fun z80 => ?_) (fun z80 => ?_)
          · skip
            have hkq : ¬ (kyN (T + 1) mo (adF ln T tl) (adF fl T (fun j => g (0 + j))) t) = (kyN T mo ln fl t) := fun w => z80 (by rw [w])
            refine s_iconst C 88 (nI 1) dX7_ifAdded_87 rfl (by decide) ?_
            refine s_iaddN C 89 dX7_ifAdded_88 rfl ?_
            refine s_istore_n C 90 dX7_ifAdded_89 rfl rfl rfl ?_
            dsimp only [List.set]
            refine s_iinc C 93 (nI (t + 1)) dX7_ifAdded_90 rfl rfl (by rw [← nI_add]; rfl) rfl ?_
            dsimp only [List.set]
            refine s_goto C 41 dX7_ifAdded_93 (by decide) ?_
            rw [show (chN T mo ln fl tl (fun j => g (0 + j)) t) + 1 = chN T mo ln fl tl (fun j => g (0 + j)) (t + 1) by rw [chN]; first | (rw [if_pos hkq]; done) | (rw [if_neg hkq]; done)]
            exact ih41 (t + 1) _ _ _ _ _ _ (by omega) (by omega) hO hS hX hSo hSn hH hQ hK hP hZ hW hU hF
          · skip
            have hkq : (kyN (T + 1) mo (adF ln T tl) (adF fl T (fun j => g (0 + j))) t) = (kyN T mo ln fl t) := fd_inj.mp ⟨z66, z80⟩
            refine s_iconst C 84 (nI 0) dX7_ifAdded_83 rfl (by decide) ?_
            refine s_goto C 88 dX7_ifAdded_84 (by decide) ?_
            refine s_iaddN C 89 dX7_ifAdded_88 rfl ?_
            refine s_istore_n C 90 dX7_ifAdded_89 rfl rfl rfl ?_
            dsimp only [List.set]
            refine s_iinc C 93 (nI (t + 1)) dX7_ifAdded_90 rfl rfl (by rw [← nI_add]; rfl) rfl ?_
            dsimp only [List.set]
            refine s_goto C 41 dX7_ifAdded_93 (by decide) ?_
            rw [show (chN T mo ln fl tl (fun j => g (0 + j)) t) + 0 = chN T mo ln fl tl (fun j => g (0 + j)) (t + 1) by rw [chN]; first | (rw [if_pos hkq]; done) | (rw [if_neg hkq]; done)]
            exact ih41 (t + 1) _ _ _ _ _ _ (by omega) (by omega) hO hS hX hSo hSn hH hQ hK hP hZ hW hU hF
  · skip
    have hno : ¬ (itB g tl = true ∧ ¬ refV T ln fl (fun j => g (0 + j)) tl < 0) := fun w => by rw [if_pos w.1] at z6; exact z6 (i32_le.mpr w.2)
    have hval : (if itB g tl = true then refV T ln fl (fun j => g (0 + j)) tl else -5) = (if itB g tl = true then (if refV T ln fl (fun j => g (0 + j)) tl < 0 then refV T ln fl (fun j => g (0 + j)) tl else nI (chN T mo ln fl tl (fun j => g (0 + j)) T)) else -5) := by by_cases hI : itB g tl = true; (· rw [if_pos hI, if_pos hI, if_pos (by by_cases hN : refV T ln fl (fun j => g (0 + j)) tl < 0; (· exact hN); exact absurd ⟨hI, hN⟩ hno)]); rw [if_neg hI, if_neg hI]
    refine s_iload_n C 10 dX7_ifAdded_9 rfl rfl ?_
    exact s_iret C dX7_ifAdded_10 Tr rfl ⟨by rw [hval], ⟨_, _, _, _, _, _, _, _, _, _, _, _, _, _, _, _, _, _, _, _, _, _, _, _, _, _, _, _, _, _, _, hO, hS, hx8, hH, hHr, hc6, hX, hXg, htl, hSo, hSn, hQ, hK, hP, hZ, hW, hU, hok⟩, (hFw.mono (by decide))⟩

set_option maxRecDepth 100000 in
set_option maxHeartbeats 4000000 in
theorem nn_digest {G : mG} {M : mM} {m T mo od ql c tl : Nat} {q : Nat → Int32} {ln : Nat → Nat} {fl : Nat → Nat → Int32} {us : Nat → Int32} {hs : Nat → mSt} {g : Nat → Int32} (hn : nR M m (T, mo, od, ql, q, ln, fl, us) c hs tl g)  : CC G iX7_digest 0 0 [.ref m] M (fun r M1 => r = some (.long (dgN T mo od ql q ln fl us)) ∧ nR M1 m (T, mo, od, ql, q, ln, fl, us) c hs tl g ∧ mZ TM M M1) := by
  refine CC.of rfl (Nat.le_of_ble_eq_true rfl) rfl (fun X C Tr => ?_)
  show V X 0 0 0 [some (.ref m), none, none, none, none] [] M
  obtain ⟨sa, ha, xa, ra, la, qa, al, ka, rm, pa, fs, fe, za, wa, ua, ap, cm, nu, be, en, S, H, xt, so, sn, Q, K, P, Z, W, U, hO, hS, hx, hH, hHr, hc6, hX, hXg, htl, hSo, hSn, hQ, hK, hP, hZ, hW, hU, hok⟩ := hn.get
  have hx8 := hx
  obtain ⟨hx0, hx1, hx2, hx3, hxq, hxt⟩ := hx
  have hT16 := hok.T16
  have hm4 := hok.m4
  have ho3 := hok.o3
  have hq24 := hok.q24
  have hki := (rkN_in (T := T) (mo := mo) (od := od) (ql := ql) (q := q) (ln := ln) (fl := fl) (us := us) (t := T))
  refine s_ldc2 C 3 (163) dX7_digest_0 rfl l_X7_264 ?_
  refine s_lstore_n C 4 dX7_digest_3 rfl rfl rfl ?_
  dsimp only [List.set]
  refine s_ldc2 C 7 (31) dX7_digest_4 rfl l_X7_266 ?_
  refine s_lload_n C 8 dX7_digest_7 rfl rfl ?_
  refine s_lmul C 9 dX7_digest_8 rfl ?_
  refine s_aload_n C 10 dX7_digest_9 rfl rfl ?_
  refine s_getf C 13 dX7_digest_10 rfl f_X7_7 hO rfl ?_
  refine s_iconst C 14 (nI 0) dX7_digest_13 rfl (by decide) ?_
  refine s_iald C 15 dX7_digest_14 rfl hS (by omega) (by omega) ?_
  rw [hx0]
  refine s_i2l C 16 dX7_digest_15 rfl ?_
  refine s_ladd C 17 dX7_digest_16 rfl ?_
  refine s_lstore_n C 18 dX7_digest_17 rfl rfl rfl ?_
  dsimp only [List.set]
  refine s_aload_n C 19 dX7_digest_18 rfl rfl ?_
  refine s_invV C 22 0 0 [] (mRv_of hO rfl) dX7_digest_19 rfl m_X7_252 (n_findKeys hO hS hx8 hok hSo hSn hQ hP hZ hW) rfl rfl rfl ⟨by decide, by decide⟩ (Nat.le_of_ble_eq_true rfl) (by omega) (by omega) ?_
  rintro _ M1 ⟨rfl, hO6, ⟨so7, sn7, hSo7, hSn7, hsr⟩, ⟨Q7, hQ7⟩, ⟨P7, hP7⟩, ⟨Z7, W7, hZ7, hW7, hZW⟩, hFk⟩
  dsimp only [Option.toList, List.cons_append, List.nil_append]
  obtain ⟨al7, fs7, fe7, hO7⟩ := hO6
  have hS := hFk.at hS (by decide)
  have hX := hFk.at hX (by decide)
  have hH := hFk.at hH (by decide)
  have hK := hFk.at hK (by decide)
  have hU := hFk.at hU (by decide)
  have hO := hO7
  have hSo := hSo7
  have hSn := hSn7
  have hQ := hQ7
  have hP := hP7
  have hZ := hZ7
  have hW := hW7
  have hWk := fun u hu => (hZW u hu).2
  refine s_iconst C 23 (nI 0) dX7_digest_22 rfl (by decide) ?_
  refine s_istore_n C 24 dX7_digest_23 rfl rfl rfl ?_
  dsimp only [List.set]
  have hF : mZ TM M M1 := (hFk.mono (by decide))
  suffices lp24 : ∀ (fu24 : Nat) (t al9 : Nat) (fs9 fe9 : Int32) (Q9 P9 : Nat → Int32) (h9 : Int64) (M9 : mM), T - t < fu24 → t ≤ T → h9 = dtN T mo od ln fl us t → M9 m = some (300, .inl (8, [.ref sa, .ref ha, .int (nI c), .ref xa, .int (nI tl), .ref ra, .ref la, .ref qa, .int (nI al9), .ref ka, .int (nI rm), .ref pa, .int fs9, .int fe9, .ref za, .ref wa, .ref ua, .int (nI ap), .int cm, .int (nI nu), .int (nI be), .int (nI en)])) → M9 sa = some (301, .inr (0, 444, .inl S)) → M9 xa = some (303, .inr (0, 80, .inl xt)) → M9 ra = some (304, .inr (0, 384, .inl so7)) → M9 la = some (305, .inr (0, 16, .inl sn7)) → M9 ha = some (302, .inr (0, 2664, .inl H)) → M9 qa = some (306, .inr (0, 24, .inl Q9)) → M9 ka = some (307, .inr (0, 16, .inl K)) → M9 pa = some (308, .inr (0, 16, .inl P9)) → M9 za = some (309, .inr (0, 16, .inl Z7)) → M9 wa = some (310, .inr (0, 16, .inl W7)) → M9 ua = some (311, .inr (0, 25, .inl U)) → mZ TM M M9 → V X 0 0 24 [some (.ref m), some (.long h9), none, some (.int (nI t)), none] [] M9 from lp24 (T + 1) 0 _ _ _ _ _ _ _ (by omega) (by omega) rfl hO hS hX hSo hSn hH hQ hK hP hZ hW hU hF
  intro fu24
  induction fu24 with
  | zero => intro t al9 fs9 fe9 Q9 P9 h9 M9 ht0 ht hh9 hO hS hX hSo hSn hH hQ hK hP hZ hW hU hF; omega
  | succ fu24 ih24 =>
    intro t al9 fs9 fe9 Q9 P9 h9 M9 ht0 ht hh9 hO hS hX hSo hSn hH hQ hK hP hZ hW hU hF
    refine s_iload_n C 25 dX7_digest_24 rfl rfl ?_
    refine s_aload_n C 26 dX7_digest_25 rfl rfl ?_
    refine s_getf C 29 dX7_digest_26 rfl f_X7_7 hO rfl ?_
    refine s_iconst C 30 (nI 0) dX7_digest_29 rfl (by decide) ?_
    refine s_iald C 31 dX7_digest_30 rfl hS (by omega) (by omega) ?_
    rw [hx0]
    refine s_icmp_geN C 172 34 dX7_digest_31 (by decide) rfl (by omega) (by omega) (fun z31 => ?_) (fun z31 => ?_)
    · skip
      have hte : t = T := by omega
      rw [hte] at hh9
      refine s_ldc2 C 175 (31) dX7_digest_172 rfl l_X7_266 ?_
      refine s_lload_n C 176 dX7_digest_175 rfl rfl ?_
      refine s_lmul C 177 dX7_digest_176 rfl ?_
      refine s_aload_n C 178 dX7_digest_177 rfl rfl ?_
      refine s_invV C 181 0 0 [.long ((31) * h9)] (mRv_of hO rfl) dX7_digest_178 rfl m_X7_255 (n_unknownNow hO hS hx8 hok hW hWk) rfl rfl rfl ⟨by decide, by decide⟩ (Nat.le_of_ble_eq_true rfl) (by omega) (by omega) ?_
      rintro _ M2 ⟨rfl, rfl⟩
      dsimp only [Option.toList, List.cons_append, List.nil_append]
      refine s_i2l C 182 dX7_digest_181 rfl ?_
      refine s_ladd C 183 dX7_digest_182 rfl ?_
      refine s_lstore_n C 184 dX7_digest_183 rfl rfl rfl ?_
      dsimp only [List.set]
      refine s_ldc2 C 187 (31) dX7_digest_184 rfl l_X7_266 ?_
      refine s_lload_n C 188 dX7_digest_187 rfl rfl ?_
      refine s_lmul C 189 dX7_digest_188 rfl ?_
      refine s_aload_n C 190 dX7_digest_189 rfl rfl ?_
      refine s_invV C 193 0 0 [.long ((31) * (((31) * h9) + ((nI (unN T mo ln fl T)).toInt64)))] (mRv_of hO rfl) dX7_digest_190 rfl m_X7_258 (n_hardestNow hO hS hx8 hok hW hWk) rfl rfl rfl ⟨by decide, by decide⟩ (Nat.le_of_ble_eq_true rfl) (by omega) (by omega) ?_
      rintro _ M3 ⟨rfl, rfl⟩
      dsimp only [Option.toList, List.cons_append, List.nil_append]
      refine s_i2l C 194 dX7_digest_193 rfl ?_
      refine s_ladd C 195 dX7_digest_194 rfl ?_
      refine s_lstore_n C 196 dX7_digest_195 rfl rfl rfl ?_
      dsimp only [List.set]
      refine s_ldc2 C 199 (31) dX7_digest_196 rfl l_X7_266 ?_
      refine s_lload_n C 200 dX7_digest_199 rfl rfl ?_
      refine s_lmul C 201 dX7_digest_200 rfl ?_
      refine s_aload_n C 202 dX7_digest_201 rfl rfl ?_
      refine s_getf C 205 dX7_digest_202 rfl f_X7_7 hO rfl ?_
      refine s_iconst C 206 (nI 1) dX7_digest_205 rfl (by decide) ?_
      refine s_iald C 207 dX7_digest_206 rfl hS (by omega) (by omega) ?_
      rw [hx1]
      refine s_i2l C 208 dX7_digest_207 rfl ?_
      refine s_ladd C 209 dX7_digest_208 rfl ?_
      refine s_lstore_n C 210 dX7_digest_209 rfl rfl rfl ?_
      dsimp only [List.set]
      refine s_ldc2 C 213 (31) dX7_digest_210 rfl l_X7_266 ?_
      refine s_lload_n C 214 dX7_digest_213 rfl rfl ?_
      refine s_lmul C 215 dX7_digest_214 rfl ?_
      refine s_aload_n C 216 dX7_digest_215 rfl rfl ?_
      refine s_getf C 219 dX7_digest_216 rfl f_X7_7 hO rfl ?_
      refine s_iconst C 220 (nI 2) dX7_digest_219 rfl (by decide) ?_
      refine s_iald C 221 dX7_digest_220 rfl hS (by omega) (by omega) ?_
      rw [hx2]
      refine s_i2l C 222 dX7_digest_221 rfl ?_
      refine s_ladd C 223 dX7_digest_222 rfl ?_
      refine s_lstore_n C 224 dX7_digest_223 rfl rfl rfl ?_
      dsimp only [List.set]
      refine s_ldc2 C 227 (31) dX7_digest_224 rfl l_X7_266 ?_
      refine s_lload_n C 228 dX7_digest_227 rfl rfl ?_
      refine s_lmul C 229 dX7_digest_228 rfl ?_
      refine s_aload_n C 230 dX7_digest_229 rfl rfl ?_
      refine s_getf C 233 dX7_digest_230 rfl f_X7_7 hO rfl ?_
      refine s_iconst C 234 (nI 3) dX7_digest_233 rfl (by decide) ?_
      refine s_iald C 235 dX7_digest_234 rfl hS (by omega) (by omega) ?_
      rw [hx3]
      refine s_i2l C 236 dX7_digest_235 rfl ?_
      refine s_ladd C 237 dX7_digest_236 rfl ?_
      refine s_lstore_n C 238 dX7_digest_237 rfl rfl rfl ?_
      dsimp only [List.set]
      refine s_iconst C 239 (nI 0) dX7_digest_238 rfl (by decide) ?_
      refine s_istore_n C 240 dX7_digest_239 rfl rfl rfl ?_
      dsimp only [List.set]
      obtain ⟨h7, hh7⟩ : ∃ h7, h7 = ((31) * (((31) * (((31) * (((31) * (((31) * h9) + ((nI (unN T mo ln fl T)).toInt64))) + ((oI (hdN T mo ln fl T).2).toInt64))) + ((nI mo).toInt64))) + ((nI od).toInt64))) + ((nI ql).toInt64) := ⟨_, rfl⟩
      suffices lp240 : ∀ (fu240 : Nat) (k : Nat) (h8 : Int64), ql - k < fu240 → k ≤ ql → h8 = hwN q h7 k → V X 0 0 240 [some (.ref m), some (.long h8), none, some (.int (nI k)), none] [] M9 from lp240 (ql + 1) 0 _ (by omega) (by omega) hh7.symm
      intro fu240
      induction fu240 with
      | zero => intro k h8 hk0 hk hh8; omega
      | succ fu240 ih240 =>
        intro k h8 hk0 hk hh8
        refine s_iload_n C 241 dX7_digest_240 rfl rfl ?_
        refine s_aload_n C 242 dX7_digest_241 rfl rfl ?_
        refine s_getf C 245 dX7_digest_242 rfl f_X7_7 hO rfl ?_
        refine s_iconst C 246 (nI 3) dX7_digest_245 rfl (by decide) ?_
        refine s_iald C 247 dX7_digest_246 rfl hS (by omega) (by omega) ?_
        rw [hx3]
        refine s_icmp_geN C 272 250 dX7_digest_247 (by decide) rfl (by omega) (by omega) (fun z247 => ?_) (fun z247 => ?_)
        · skip
          have hkq : k = ql := by omega
          rw [hkq] at hh8
          refine s_aload_n C 273 dX7_digest_272 rfl rfl ?_
          refine s_invV C 276 0 0 [] (mRv_of hO rfl) dX7_digest_273 rfl m_X7_210 (n_findResults hO hS hx8 hok hSo hSn hQ hK hP) rfl rfl rfl ⟨by decide, by decide⟩ (Nat.le_of_ble_eq_true rfl) (by omega) (by omega) ?_
          rintro _ M4 ⟨rfl, hO7, ⟨so7, sn7, hSo7, hSn7, hsr⟩, ⟨Q7, hQ7⟩, ⟨K7, hK7, hKk⟩, ⟨P7, hP7, hPp⟩, hFf⟩
          dsimp only [Option.toList, List.cons_append, List.nil_append]
          have hS := hFf.at hS (by decide)
          have hX := hFf.at hX (by decide)
          have hH := hFf.at hH (by decide)
          have hZ := hFf.at hZ (by decide)
          have hW := hFf.at hW (by decide)
          have hU := hFf.at hU (by decide)
          have hO := hO7
          have hSo := hSo7
          have hSn := hSn7
          have hQ := hQ7
          have hK := hK7
          have hP := hP7
          have hF := hF.tr (hFf.mono (by decide))
          refine s_ldc2 C 279 (31) dX7_digest_276 rfl l_X7_266 ?_
          refine s_lload_n C 280 dX7_digest_279 rfl rfl ?_
          refine s_lmul C 281 dX7_digest_280 rfl ?_
          refine s_aload_n C 282 dX7_digest_281 rfl rfl ?_
          refine s_getf C 285 dX7_digest_282 rfl f_X7_93 hO rfl ?_
          refine s_i2l C 286 dX7_digest_285 rfl ?_
          refine s_ladd C 287 dX7_digest_286 rfl ?_
          refine s_lstore_n C 288 dX7_digest_287 rfl rfl rfl ?_
          dsimp only [List.set]
          refine s_iconst C 289 (nI 0) dX7_digest_288 rfl (by decide) ?_
          refine s_istore_n C 290 dX7_digest_289 rfl rfl rfl ?_
          dsimp only [List.set]
          obtain ⟨h5, hh5⟩ : ∃ h5, h5 = ((31) * h8) + ((nI ((rkN T mo od ql q ln fl us T).1)).toInt64) := ⟨_, rfl⟩
          suffices lp290 : ∀ (fu290 : Nat) (k : Nat) (h6 : Int64), (rkN T mo od ql q ln fl us T).1 - k < fu290 → k ≤ (rkN T mo od ql q ln fl us T).1 → h6 = hrN (rkN T mo od ql q ln fl us T).2 (plN mo ql q ln fl) h5 k → V X 0 0 290 [some (.ref m), some (.long h6), none, some (.int (nI k)), none] [] M4 from lp290 ((rkN T mo od ql q ln fl us T).1 + 1) 0 _ (by omega) (by omega) hh5.symm
          intro fu290
          induction fu290 with
          | zero => intro k h6 hk0 hk hh6; omega
          | succ fu290 ih290 =>
            intro k h6 hk0 hk hh6
            refine s_iload_n C 291 dX7_digest_290 rfl rfl ?_
            refine s_aload_n C 292 dX7_digest_291 rfl rfl ?_
            refine s_getf C 295 dX7_digest_292 rfl f_X7_93 hO rfl ?_
            refine s_icmp_geN C 337 298 dX7_digest_295 (by decide) rfl (by omega) (by omega) (fun z295 => ?_) (fun z295 => ?_)
            · skip
              refine s_lload_n C 338 dX7_digest_337 rfl rfl ?_
              exact s_lret C dX7_digest_338 Tr rfl ⟨by rw [hh6, show k = (rkN T mo od ql q ln fl us T).1 by omega, hh5, hh8, hh7, hh9]; rfl, ⟨_, _, _, _, _, _, _, _, _, _, _, _, _, _, _, _, _, _, _, _, _, _, _, _, _, _, _, _, _, _, _, hO, hS, hx8, hH, hHr, hc6, hX, hXg, htl, hSo, hSn, hQ, hK, hP, hZ, hW, hU, hok⟩, hF⟩
            · skip
              refine s_ldc2 C 301 (31) dX7_digest_298 rfl l_X7_266 ?_
              refine s_lload_n C 302 dX7_digest_301 rfl rfl ?_
              refine s_lmul C 303 dX7_digest_302 rfl ?_
              refine s_aload_n C 304 dX7_digest_303 rfl rfl ?_
              refine s_getf C 307 dX7_digest_304 rfl f_X7_28 hO rfl ?_
              refine s_iload_n C 308 dX7_digest_307 rfl rfl ?_
              refine s_iald C 309 dX7_digest_308 rfl hK (by omega) (by omega) ?_
              rw [hKk k (by omega)]
              refine s_i2l C 310 dX7_digest_309 rfl ?_
              refine s_ladd C 311 dX7_digest_310 rfl ?_
              refine s_lstore_n C 312 dX7_digest_311 rfl rfl rfl ?_
              dsimp only [List.set]
              refine s_ldc2 C 315 (31) dX7_digest_312 rfl l_X7_266 ?_
              refine s_lload_n C 316 dX7_digest_315 rfl rfl ?_
              refine s_lmul C 317 dX7_digest_316 rfl ?_
              refine s_aload_n C 318 dX7_digest_317 rfl rfl ?_
              refine s_getf C 321 dX7_digest_318 rfl f_X7_31 hO rfl ?_
              refine s_aload_n C 322 dX7_digest_321 rfl rfl ?_
              refine s_getf C 325 dX7_digest_322 rfl f_X7_28 hO rfl ?_
              refine s_iload_n C 326 dX7_digest_325 rfl rfl ?_
              refine s_iald C 327 dX7_digest_326 rfl hK (by omega) (by omega) ?_
              rw [hKk k (by omega)]
              refine s_iald C 328 dX7_digest_327 rfl hP (by have := (hki.2 k (by omega)).1; omega) (by omega) ?_
              rw [show P7 ((rkN T mo od ql q ln fl us T).2 k) = nI (plN mo ql q ln fl ((rkN T mo od ql q ln fl us T).2 k)) by (rw [hPp _ (hki.2 k (by omega)).1, oI_some (hki.2 k (by omega)).2]; rfl)]
              refine s_i2l C 329 dX7_digest_328 rfl ?_
              refine s_ladd C 330 dX7_digest_329 rfl ?_
              refine s_lstore_n C 331 dX7_digest_330 rfl rfl rfl ?_
              dsimp only [List.set]
              refine s_iinc C 334 (nI (k + 1)) dX7_digest_331 rfl rfl (by rw [← nI_add]; rfl) rfl ?_
              dsimp only [List.set]
              refine s_goto C 290 dX7_digest_334 (by decide) ?_
              exact ih290 (k + 1) _ (by omega) (by omega) (by rw [hh6]; rfl)
        · skip
          refine s_ldc2 C 253 (31) dX7_digest_250 rfl l_X7_266 ?_
          refine s_lload_n C 254 dX7_digest_253 rfl rfl ?_
          refine s_lmul C 255 dX7_digest_254 rfl ?_
          refine s_aload_n C 256 dX7_digest_255 rfl rfl ?_
          refine s_getf C 259 dX7_digest_256 rfl f_X7_7 hO rfl ?_
          refine s_iconst C 260 (nI 4) dX7_digest_259 rfl (by decide) ?_
          refine s_iload_n C 261 dX7_digest_260 rfl rfl ?_
          refine s_iaddN C 262 dX7_digest_261 rfl ?_
          refine s_iald C 263 dX7_digest_262 rfl hS (by omega) (by omega) ?_
          rw [hxq k (by omega)]
          refine s_i2l C 264 dX7_digest_263 rfl ?_
          refine s_ladd C 265 dX7_digest_264 rfl ?_
          refine s_lstore_n C 266 dX7_digest_265 rfl rfl rfl ?_
          dsimp only [List.set]
          refine s_iinc C 269 (nI (k + 1)) dX7_digest_266 rfl rfl (by rw [← nI_add]; rfl) rfl ?_
          dsimp only [List.set]
          refine s_goto C 240 dX7_digest_269 (by decide) ?_
          exact ih240 (k + 1) _ (by omega) (by omega) (by rw [hh8]; rfl)
    · skip
      refine s_ldc2 C 37 (31) dX7_digest_34 rfl l_X7_266 ?_
      refine s_lload_n C 38 dX7_digest_37 rfl rfl ?_
      refine s_lmul C 39 dX7_digest_38 rfl ?_
      refine s_aload_n C 40 dX7_digest_39 rfl rfl ?_
      refine s_iload_n C 41 dX7_digest_40 rfl rfl ?_
      refine s_invV C 44 0 0 [.long ((31) * h9)] (mRv_of hO rfl) dX7_digest_41 rfl m_X7_58 (n_len hO hS hx8 (t := t) (by omega) hT16) rfl rfl rfl ⟨by decide, by decide⟩ (Nat.le_of_ble_eq_true rfl) (by omega) (by omega) ?_
      rintro _ M5 ⟨rfl, rfl⟩
      dsimp only [Option.toList, List.cons_append, List.nil_append]
      refine s_i2l C 45 dX7_digest_44 rfl ?_
      refine s_ladd C 46 dX7_digest_45 rfl ?_
      refine s_lstore_n C 47 dX7_digest_46 rfl rfl rfl ?_
      dsimp only [List.set]
      refine s_ldc2 C 50 (31) dX7_digest_47 rfl l_X7_266 ?_
      refine s_lload_n C 51 dX7_digest_50 rfl rfl ?_
      refine s_lmul C 52 dX7_digest_51 rfl ?_
      refine s_aload_n C 53 dX7_digest_52 rfl rfl ?_
      refine s_iload_n C 54 dX7_digest_53 rfl rfl ?_
      refine s_invV C 57 0 0 [.long ((31) * (((31) * h9) + ((nI (ln t)).toInt64)))] (mRv_of hO rfl) dX7_digest_54 rfl m_X7_243 (n_words hO hS hx8 hok (t := t) (by omega)) rfl rfl rfl ⟨by decide, by decide⟩ (Nat.le_of_ble_eq_true rfl) (by omega) (by omega) ?_
      rintro _ M6 ⟨rfl, rfl⟩
      dsimp only [Option.toList, List.cons_append, List.nil_append]
      refine s_i2l C 58 dX7_digest_57 rfl ?_
      refine s_ladd C 59 dX7_digest_58 rfl ?_
      refine s_lstore_n C 60 dX7_digest_59 rfl rfl rfl ?_
      dsimp only [List.set]
      refine s_ldc2 C 63 (31) dX7_digest_60 rfl l_X7_266 ?_
      refine s_lload_n C 64 dX7_digest_63 rfl rfl ?_
      refine s_lmul C 65 dX7_digest_64 rfl ?_
      refine s_aload_n C 66 dX7_digest_65 rfl rfl ?_
      refine s_iload_n C 67 dX7_digest_66 rfl rfl ?_
      refine s_iconst C 68 (nI 1) dX7_digest_67 rfl (by decide) ?_
      refine s_invV C 71 0 0 [.long ((31) * (((31) * (((31) * h9) + ((nI (ln t)).toInt64))) + ((nI (1 + cnB (fl t) (ln t))).toInt64)))] (mRv_of hO rfl) dX7_digest_68 rfl m_X7_51 (n_part hO hS (t := t) (k := 1) (by omega)) rfl rfl rfl ⟨by decide, by decide⟩ (Nat.le_of_ble_eq_true rfl) (by omega) (by omega) ?_
      rintro _ M7 ⟨rfl, rfl⟩
      dsimp only [Option.toList, List.cons_append, List.nil_append]
      rw [show 28 + 26 * t + 1 = 29 + 26 * t by omega, (hxt t (by omega)).2.1]
      refine s_i2l C 72 dX7_digest_71 rfl ?_
      refine s_ladd C 73 dX7_digest_72 rfl ?_
      refine s_lstore_n C 74 dX7_digest_73 rfl rfl rfl ?_
      dsimp only [List.set]
      refine s_ldc2 C 77 (31) dX7_digest_74 rfl l_X7_266 ?_
      refine s_lload_n C 78 dX7_digest_77 rfl rfl ?_
      refine s_lmul C 79 dX7_digest_78 rfl ?_
      refine s_aload_n C 80 dX7_digest_79 rfl rfl ?_
      refine s_getf C 83 dX7_digest_80 rfl f_X7_34 hO rfl ?_
      refine s_iload_n C 84 dX7_digest_83 rfl rfl ?_
      refine s_iald C 85 dX7_digest_84 rfl hZ (by omega) (by omega) ?_
      rw [(hZW t (by omega)).1]
      refine s_i2l C 86 dX7_digest_85 rfl ?_
      refine s_ladd C 87 dX7_digest_86 rfl ?_
      refine s_lstore_n C 88 dX7_digest_87 rfl rfl rfl ?_
      dsimp only [List.set]
      refine s_ldc2 C 91 (31) dX7_digest_88 rfl l_X7_266 ?_
      refine s_lload_n C 92 dX7_digest_91 rfl rfl ?_
      refine s_lmul C 93 dX7_digest_92 rfl ?_
      refine s_aload_n C 94 dX7_digest_93 rfl rfl ?_
      refine s_getf C 97 dX7_digest_94 rfl f_X7_37 hO rfl ?_
      refine s_iload_n C 98 dX7_digest_97 rfl rfl ?_
      refine s_iald C 99 dX7_digest_98 rfl hW (by omega) (by omega) ?_
      rw [(hZW t (by omega)).2]
      refine s_i2l C 100 dX7_digest_99 rfl ?_
      refine s_ladd C 101 dX7_digest_100 rfl ?_
      refine s_lstore_n C 102 dX7_digest_101 rfl rfl rfl ?_
      dsimp only [List.set]
      refine s_aload_n C 103 dX7_digest_102 rfl rfl ?_
      refine s_iload_n C 104 dX7_digest_103 rfl rfl ?_
      refine s_iconst C 105 (nI 0) dX7_digest_104 rfl (by decide) ?_
      refine s_invV C 108 0 0 [] (mRv_of hO rfl) dX7_digest_105 rfl m_X7_116 (n_findShort hO hS hx8 hok hSo hSn hsr hQ hP (t := t) (by omega)) rfl rfl rfl ⟨by decide, by decide⟩ (Nat.le_of_ble_eq_true rfl) (by omega) (by omega) ?_
      rintro _ M8 ⟨rfl, hO3, ⟨Q4, hQ4⟩, ⟨P4, hP4⟩, hFp⟩
      dsimp only [Option.toList, List.cons_append, List.nil_append]
      obtain ⟨al5, hO4⟩ := hO3
      have hS := hFp.at hS (by decide)
      have hX := hFp.at hX (by decide)
      have hSo := hFp.at hSo (by decide)
      have hSn := hFp.at hSn (by decide)
      have hH := hFp.at hH (by decide)
      have hK := hFp.at hK (by decide)
      have hZ := hFp.at hZ (by decide)
      have hW := hFp.at hW (by decide)
      have hU := hFp.at hU (by decide)
      have hO := hO4
      have hQ := hQ4
      have hP := hP4
      have hF := hF.tr (hFp.mono (by decide))
      refine s_ldc2 C 111 (31) dX7_digest_108 rfl l_X7_266 ?_
      refine s_lload_n C 112 dX7_digest_111 rfl rfl ?_
      refine s_lmul C 113 dX7_digest_112 rfl ?_
      refine s_aload_n C 114 dX7_digest_113 rfl rfl ?_
      refine s_getf C 117 dX7_digest_114 rfl f_X7_110 hO rfl ?_
      refine s_i2l C 118 dX7_digest_117 rfl ?_
      refine s_ladd C 119 dX7_digest_118 rfl ?_
      refine s_lstore_n C 120 dX7_digest_119 rfl rfl rfl ?_
      dsimp only [List.set]
      refine s_ldc2 C 123 (31) dX7_digest_120 rfl l_X7_266 ?_
      refine s_lload_n C 124 dX7_digest_123 rfl rfl ?_
      refine s_lmul C 125 dX7_digest_124 rfl ?_
      refine s_aload_n C 126 dX7_digest_125 rfl rfl ?_
      refine s_getf C 129 dX7_digest_126 rfl f_X7_113 hO rfl ?_
      refine s_i2l C 130 dX7_digest_129 rfl ?_
      refine s_ladd C 131 dX7_digest_130 rfl ?_
      refine s_lstore_n C 132 dX7_digest_131 rfl rfl rfl ?_
      dsimp only [List.set]
      refine s_iconst C 133 (nI 0) dX7_digest_132 rfl (by decide) ?_
      refine s_istore C 135 dX7_digest_133 rfl rfl rfl ?_
      dsimp only [List.set]
      have hl24 := (hok.V t (by omega)).2.1
      suffices lp135 : ∀ (fu135 : Nat) (k : Nat) (h8 : Int64), ln t - k < fu135 → k ≤ ln t → h8 = hwN (fl t) (hwN (ofT T mo od ln fl us t) h9 7) k → V X 0 0 135 [some (.ref m), some (.long h8), none, some (.int (nI t)), some (.int (nI k))] [] M8 from lp135 (ln t + 1) 0 _ (by omega) (by omega) rfl
      intro fu135
      induction fu135 with
      | zero => intro k h8 hk0 hk hh8; omega
      | succ fu135 ih135 =>
        intro k h8 hk0 hk hh8
        refine s_iload C 137 dX7_digest_135 rfl rfl ?_
        refine s_aload_n C 138 dX7_digest_137 rfl rfl ?_
        refine s_iload_n C 139 dX7_digest_138 rfl rfl ?_
        refine s_invV C 142 0 0 [.int (nI k)] (mRv_of hO rfl) dX7_digest_139 rfl m_X7_58 (n_len hO hS hx8 (t := t) (by omega) hT16) rfl rfl rfl ⟨by decide, by decide⟩ (Nat.le_of_ble_eq_true rfl) (by omega) (by omega) ?_
        rintro _ M9 ⟨rfl, rfl⟩
        dsimp only [Option.toList, List.cons_append, List.nil_append]
        refine s_icmp_geN C 166 145 dX7_digest_142 (by decide) rfl (by omega) (by omega) (fun z142 => ?_) (fun z142 => ?_)
        · skip
          refine s_iinc C 169 (nI (t + 1)) dX7_digest_166 rfl rfl (by rw [← nI_add]; rfl) rfl ?_
          dsimp only [List.set]
          refine s_goto C 24 dX7_digest_169 (by decide) ?_
          refine V.drop 4 ?_
          dsimp only [List.set]
          exact ih24 (t + 1) _ _ _ _ _ _ _ (by omega) (by omega) (by rw [hh8, show k = ln t by omega, hh9]; rfl) hO hS hX hSo hSn hH hQ hK hP hZ hW hU hF
        · skip
          refine s_ldc2 C 148 (31) dX7_digest_145 rfl l_X7_266 ?_
          refine s_lload_n C 149 dX7_digest_148 rfl rfl ?_
          refine s_lmul C 150 dX7_digest_149 rfl ?_
          refine s_aload_n C 151 dX7_digest_150 rfl rfl ?_
          refine s_iload_n C 152 dX7_digest_151 rfl rfl ?_
          refine s_iload C 154 dX7_digest_152 rfl rfl ?_
          refine s_invV C 157 0 0 [.long ((31) * h8)] (mRv_of hO rfl) dX7_digest_154 rfl m_X7_55 (n_char hO hS hx8 (t := t) (k := k) (by omega) hT16 (by omega) (hok.V _ (by omega)).2.1) rfl rfl rfl ⟨by decide, by decide⟩ (Nat.le_of_ble_eq_true rfl) (by omega) (by omega) ?_
          rintro _ M10 ⟨rfl, rfl⟩
          dsimp only [Option.toList, List.cons_append, List.nil_append]
          refine s_i2l C 158 dX7_digest_157 rfl ?_
          refine s_ladd C 159 dX7_digest_158 rfl ?_
          refine s_lstore_n C 160 dX7_digest_159 rfl rfl rfl ?_
          dsimp only [List.set]
          refine s_iinc C 163 (nI (k + 1)) dX7_digest_160 rfl rfl (by rw [← nI_add]; rfl) rfl ?_
          dsimp only [List.set]
          refine s_goto C 135 dX7_digest_163 (by decide) ?_
          exact ih135 (k + 1) _ (by omega) (by omega) (by rw [hh8]; rfl)

set_option maxRecDepth 100000 in
set_option maxHeartbeats 4000000 in
theorem nn_mayDo {G : mG} {M : mM} {m T mo od ql c tl : Nat} {q : Nat → Int32} {ln : Nat → Nat} {fl : Nat → Nat → Int32} {us : Nat → Int32} {hs : Nat → mSt} {g : Nat → Int32} {ap nu be en k : Nat} {kk : Nat} (hn : nC M m (T, mo, od, ql, q, ln, fl, us) c hs tl g ap (nI (cmC k)) nu be en kk) (hob : obH k nu be en tl g) : CC G iX7_mayDo 0 0 [.ref m] M (fun r M1 => r = some (.int (mB (obX (T, mo, od, ql, q, ln, fl, us) k nu be en g).isSome)) ∧ nC M1 m (T, mo, od, ql, q, ln, fl, us) c hs tl g ap (nI (cmC k)) nu be en k ∧ mZ TM M M1) := by
  refine CC.of rfl (Nat.le_of_ble_eq_true rfl) rfl (fun X C Tr => ?_)
  show V X 0 0 0 [some (.ref m)] [] M
  obtain ⟨sa, ha, xa, ra, la, qa, al, ka, rm, pa, fs, fe, za, wa, ua, S, H, xt, so, sn, Q, K, P, Z, W, U, hO, hS, hx, hH, hHr, hc6, hX, hXg, htl, hSo, hSn, hQ, hK, hP, hZ, hW, hU, hok, hk5⟩ := hn.get
  have hx8 := hx
  obtain ⟨hx0, hx1, hx2, hx3, hxq, hxt⟩ := hx
  have hT16 := hok.T16
  have hm4 := hok.m4
  have ho3 := hok.o3
  have hq24 := hok.q24
  have hki := (rkN_in (T := T) (mo := mo) (od := od) (ql := ql) (q := q) (ln := ln) (fl := fl) (us := us) (t := T))
  obtain ⟨hk7, hnu, h2, h3, ht⟩ := hob
  by_cases wc0 : k = 0
  · skip
    subst wc0
    obtain ⟨hft, hto, hTV⟩ := ht (by omega)
    have hln := hTV.2.1
    refine s_aload_n C 1 dX7_mayDo_0 rfl rfl ?_
    refine s_getf C 4 dX7_mayDo_1 rfl f_X7_164 hO rfl ?_
    refine s_look C 40 dX7_mayDo_4 (by decide) (off := 36) (by decide) (by decide) ?_
    refine s_aload_n C 41 dX7_mayDo_40 rfl rfl ?_
    refine s_aload_n C 42 dX7_mayDo_41 rfl rfl ?_
    refine s_getf C 45 dX7_mayDo_42 rfl f_X7_134 hO rfl ?_
    refine s_aload_n C 46 dX7_mayDo_45 rfl rfl ?_
    refine s_getf C 49 dX7_mayDo_46 rfl f_X7_140 hO rfl ?_
    refine s_invV C 52 0 0 [] (mRv_of hO rfl) dX7_mayDo_49 rfl m_X7_213 (n_whyNot hO hS hx8 hok hX hXg htl hft hto) rfl rfl rfl ⟨by decide, by decide⟩ (Nat.le_of_ble_eq_true rfl) (by omega) (by omega) ?_
    rintro _ M1 ⟨rfl, rfl⟩
    dsimp only [Option.toList, List.cons_append, List.nil_append]
    refine s_if_ne C 59 55 dX7_mayDo_52 (by decide) rfl (fun z52 => ?_) (fun z52 => ?_)
    · skip
      refine s_iconst C 60 (nI 0) dX7_mayDo_59 rfl (by decide) ?_
      exact s_zret C dX7_mayDo_60 Tr rfl (by decide) ⟨rF (by rw [obX_0, if_pos (Classical.not_not.mp (fun w => z52 (refV_0.mpr w)))]; rfl), ⟨_, _, _, _, _, _, _, _, _, _, _, _, _, _, _, _, _, _, _, _, _, _, _, _, _, _, hO, hS, hx8, hH, hHr, hc6, hX, hXg, htl, hSo, hSn, hQ, hK, hP, hZ, hW, hU, hok, (fun w => by omega)⟩, mZ.rf⟩
    · skip
      refine s_iconst C 56 (nI 1) dX7_mayDo_55 rfl (by decide) ?_
      refine s_goto C 60 dX7_mayDo_56 (by decide) ?_
      exact s_zret C dX7_mayDo_60 Tr rfl (by decide) ⟨rT (by rw [obX_0, if_neg (refV_0.mp z52)]; rfl), ⟨_, _, _, _, _, _, _, _, _, _, _, _, _, _, _, _, _, _, _, _, _, _, _, _, _, _, hO, hS, hx8, hH, hHr, hc6, hX, hXg, htl, hSo, hSn, hQ, hK, hP, hZ, hW, hU, hok, (fun w => by omega)⟩, mZ.rf⟩
  by_cases wc1 : k = 1
  · skip
    subst wc1
    have hnu := hnu (by omega)
    refine s_aload_n C 1 dX7_mayDo_0 rfl rfl ?_
    refine s_getf C 4 dX7_mayDo_1 rfl f_X7_164 hO rfl ?_
    refine s_look C 61 dX7_mayDo_4 (by decide) (off := 57) (by decide) (by decide) ?_
    refine s_aload_n C 62 dX7_mayDo_61 rfl rfl ?_
    refine s_aload_n C 63 dX7_mayDo_62 rfl rfl ?_
    refine s_getf C 66 dX7_mayDo_63 rfl f_X7_143 hO rfl ?_
    refine s_invV C 69 0 0 [] (mRv_of hO rfl) dX7_mayDo_66 rfl m_X7_216 (n_isTitle hO hS hx8 hok (a := nI nu)) rfl rfl rfl ⟨by decide, by decide⟩ (Nat.le_of_ble_eq_true rfl) (by omega) (by omega) ?_
    rintro _ M2 ⟨rfl, rfl⟩
    dsimp only [Option.toList, List.cons_append, List.nil_append]
    rw [isIx_nat (by omega) (by omega)]
    exact s_zret C dX7_mayDo_69 Tr rfl (mB_z _) ⟨by rw [obX_1]; by_cases hN : nu < T <;> simp [hN], ⟨_, _, _, _, _, _, _, _, _, _, _, _, _, _, _, _, _, _, _, _, _, _, _, _, _, _, hO, hS, hx8, hH, hHr, hc6, hX, hXg, htl, hSo, hSn, hQ, hK, hP, hZ, hW, hU, hok, (fun w => by omega)⟩, mZ.rf⟩
  by_cases wc2 : k = 2
  · skip
    subst wc2
    have hnu := hnu (by omega)
    refine s_aload_n C 1 dX7_mayDo_0 rfl rfl ?_
    refine s_getf C 4 dX7_mayDo_1 rfl f_X7_164 hO rfl ?_
    refine s_look C 79 dX7_mayDo_4 (by decide) (off := 75) (by decide) (by decide) ?_
    refine s_iconst C 80 (nI 1) dX7_mayDo_79 rfl (by decide) ?_
    exact s_zret C dX7_mayDo_80 Tr rfl (by decide) ⟨rT (by rfl), ⟨_, _, _, _, _, _, _, _, _, _, _, _, _, _, _, _, _, _, _, _, _, _, _, _, _, _, hO, hS, hx8, hH, hHr, hc6, hX, hXg, htl, hSo, hSn, hQ, hK, hP, hZ, hW, hU, hok, (fun w => by omega)⟩, mZ.rf⟩
  by_cases wc3 : k = 3
  · skip
    subst wc3
    have hnu := hnu (by omega)
    refine s_aload_n C 1 dX7_mayDo_0 rfl rfl ?_
    refine s_getf C 4 dX7_mayDo_1 rfl f_X7_164 hO rfl ?_
    refine s_look C 79 dX7_mayDo_4 (by decide) (off := 75) (by decide) (by decide) ?_
    refine s_iconst C 80 (nI 1) dX7_mayDo_79 rfl (by decide) ?_
    exact s_zret C dX7_mayDo_80 Tr rfl (by decide) ⟨rT (by rfl), ⟨_, _, _, _, _, _, _, _, _, _, _, _, _, _, _, _, _, _, _, _, _, _, _, _, _, _, hO, hS, hx8, hH, hHr, hc6, hX, hXg, htl, hSo, hSn, hQ, hK, hP, hZ, hW, hU, hok, (fun w => by omega)⟩, mZ.rf⟩
  by_cases wc4 : k = 4
  · skip
    subst wc4
    obtain ⟨hft, hto, hTV⟩ := ht (by omega)
    have hln := hTV.2.1
    refine s_aload_n C 1 dX7_mayDo_0 rfl rfl ?_
    refine s_getf C 4 dX7_mayDo_1 rfl f_X7_164 hO rfl ?_
    refine s_look C 79 dX7_mayDo_4 (by decide) (off := 75) (by decide) (by decide) ?_
    refine s_iconst C 80 (nI 1) dX7_mayDo_79 rfl (by decide) ?_
    exact s_zret C dX7_mayDo_80 Tr rfl (by decide) ⟨rT (by rfl), ⟨_, _, _, _, _, _, _, _, _, _, _, _, _, _, _, _, _, _, _, _, _, _, _, _, _, _, hO, hS, hx8, hH, hHr, hc6, hX, hXg, htl, hSo, hSn, hQ, hK, hP, hZ, hW, hU, hok, (fun w => by omega)⟩, mZ.rf⟩
  by_cases wc5 : k = 5
  · skip
    subst wc5
    have hnu := hnu (by omega)
    refine s_aload_n C 1 dX7_mayDo_0 rfl rfl ?_
    refine s_getf C 4 dX7_mayDo_1 rfl f_X7_164 hO rfl ?_
    refine s_look C 70 dX7_mayDo_4 (by decide) (off := 66) (by decide) (by decide) ?_
    refine s_aload_n C 71 dX7_mayDo_70 rfl rfl ?_
    refine s_aload_n C 72 dX7_mayDo_71 rfl rfl ?_
    refine s_getf C 75 dX7_mayDo_72 rfl f_X7_143 hO rfl ?_
    refine s_invV C 78 0 0 [] (mRv_of hO rfl) dX7_mayDo_75 rfl m_X7_219 (n_isRank hO hS hx8 hok hSo hSn hQ hK hP (a := nI nu)) rfl rfl rfl ⟨by decide, by decide⟩ (Nat.le_of_ble_eq_true rfl) (by omega) (by omega) ?_
    rintro _ M3 ⟨rfl, hO7, ⟨so7, sn7, hSo7, hSn7, hsr⟩, ⟨Q7, hQ7⟩, ⟨K7, hK7, hKk⟩, ⟨P7, hP7, hPp⟩, hFf⟩
    dsimp only [Option.toList, List.cons_append, List.nil_append]
    have hS := hFf.at hS (by decide)
    have hX := hFf.at hX (by decide)
    have hH := hFf.at hH (by decide)
    have hZ := hFf.at hZ (by decide)
    have hW := hFf.at hW (by decide)
    have hU := hFf.at hU (by decide)
    have hO := hO7
    have hSo := hSo7
    have hSn := hSn7
    have hQ := hQ7
    have hK := hK7
    have hP := hP7
    rw [isIx_nat (by omega) (by omega)]
    exact s_zret C dX7_mayDo_78 Tr rfl (mB_z _) ⟨by rw [obX_5]; by_cases hN : nu < (rkN T mo od ql q ln fl us T).1 <;> simp [hN], ⟨_, _, _, _, _, _, _, _, _, _, _, _, _, _, _, _, _, _, _, _, _, _, _, _, _, _, hO, hS, hx8, hH, hHr, hc6, hX, hXg, htl, hSo, hSn, hQ, hK, hP, hZ, hW, hU, hok, (fun _ => hKk)⟩, (hFf.mono (by decide))⟩
  by_cases wc6 : k = 6
  · skip
    subst wc6
    refine s_aload_n C 1 dX7_mayDo_0 rfl rfl ?_
    refine s_getf C 4 dX7_mayDo_1 rfl f_X7_164 hO rfl ?_
    refine s_look C 79 dX7_mayDo_4 (by decide) (off := 75) (by decide) (by decide) ?_
    refine s_iconst C 80 (nI 1) dX7_mayDo_79 rfl (by decide) ?_
    exact s_zret C dX7_mayDo_80 Tr rfl (by decide) ⟨rT (by rfl), ⟨_, _, _, _, _, _, _, _, _, _, _, _, _, _, _, _, _, _, _, _, _, _, _, _, _, _, hO, hS, hx8, hH, hHr, hc6, hX, hXg, htl, hSo, hSn, hQ, hK, hP, hZ, hW, hU, hok, (fun w => by omega)⟩, mZ.rf⟩
  omega

set_option maxRecDepth 100000 in
set_option maxHeartbeats 4000000 in
theorem nn_does {G : mG} {M : mM} {m T mo od ql c tl : Nat} {q : Nat → Int32} {ln : Nat → Nat} {fl : Nat → Nat → Int32} {us : Nat → Int32} {hs : Nat → mSt} {g : Nat → Int32} {ap nu be en k : Nat} (hn : nC M m (T, mo, od, ql, q, ln, fl, us) c hs tl g ap (nI (cmC k)) nu be en k) (hob : obH k nu be en tl g) (hsm : (obX (T, mo, od, ql, q, ln, fl, us) k nu be en g).isSome = true) : CC G iX7_does 0 0 [.ref m] M (fun r M1 => r = none ∧ nC M1 m ((obX (T, mo, od, ql, q, ln, fl, us) k nu be en g).getD (T, mo, od, ql, q, ln, fl, us)) c hs tl g ap (nI (cmC k)) nu be en 0 ∧ mZ TM M M1) := by
  refine CC.of rfl (Nat.le_of_ble_eq_true rfl) rfl (fun X C Tr => ?_)
  show V X 0 0 0 [some (.ref m), none] [] M
  obtain ⟨sa, ha, xa, ra, la, qa, al, ka, rm, pa, fs, fe, za, wa, ua, S, H, xt, so, sn, Q, K, P, Z, W, U, hO, hS, hx, hH, hHr, hc6, hX, hXg, htl, hSo, hSn, hQ, hK, hP, hZ, hW, hU, hok, hk5⟩ := hn.get
  have hx8 := hx
  obtain ⟨hx0, hx1, hx2, hx3, hxq, hxt⟩ := hx
  have hT16 := hok.T16
  have hm4 := hok.m4
  have ho3 := hok.o3
  have hq24 := hok.q24
  have hki := (rkN_in (T := T) (mo := mo) (od := od) (ql := ql) (q := q) (ln := ln) (fl := fl) (us := us) (t := T))
  obtain ⟨hk7, hnu, h2, h3, ht⟩ := hob
  by_cases wc0 : k = 0
  · skip
    subst wc0
    obtain ⟨hft, hto, hTV⟩ := ht (by omega)
    have hln := hTV.2.1
    refine s_aload_n C 1 dX7_does_0 rfl rfl ?_
    refine s_getf C 4 dX7_does_1 rfl f_X7_164 hO rfl ?_
    refine s_tabI C 96 dX7_does_4 (off := 92) (by decide) (by decide) rfl (by decide) ?_
    refine s_aload_n C 97 dX7_does_96 rfl rfl ?_
    refine s_aload_n C 98 dX7_does_97 rfl rfl ?_
    refine s_getf C 101 dX7_does_98 rfl f_X7_134 hO rfl ?_
    refine s_aload_n C 102 dX7_does_101 rfl rfl ?_
    refine s_getf C 105 dX7_does_102 rfl f_X7_140 hO rfl ?_
    have hN : ¬ refV T ln fl (fun j => g (be + j)) (en - be) < 0 := fun w => by rw [obX_0, if_pos w] at hsm; cases hsm
    obtain ⟨-, hdp, hT15⟩ := (refV_lt (T := T) (ln := ln) (fl := fl) (f := (fun j => g (be + j))) (n := en - be)).resolve_left hN
    refine s_invV C 108 0 0 [] (mRv_of hO rfl) dX7_does_105 rfl m_X7_222 (n_adds hO hS hx8 hok hX hXg htl hft hto hTV.2.1 hT15) rfl rfl rfl ⟨by decide, by decide⟩ (Nat.le_of_ble_eq_true rfl) (by omega) (by omega) ?_
    rintro _ M1 ⟨rfl, ⟨S5, hS5, hx5⟩, hFa⟩
    dsimp only [Option.toList, List.cons_append, List.nil_append]
    have hO := hFa.at hO (by decide)
    have hX := hFa.at hX (by decide)
    have hSo := hFa.at hSo (by decide)
    have hSn := hFa.at hSn (by decide)
    have hH := hFa.at hH (by decide)
    have hQ := hFa.at hQ (by decide)
    have hK := hFa.at hK (by decide)
    have hP := hFa.at hP (by decide)
    have hZ := hFa.at hZ (by decide)
    have hW := hFa.at hW (by decide)
    have hU := hFa.at hU (by decide)
    have hS := hS5
    refine s_pop C 109 dX7_does_108 rfl rfl ?_
    refine s_goto C 226 dX7_does_109 (by decide) ?_
    exact s_vret C dX7_does_226 Tr rfl ⟨rfl, by rw [obX_0, if_neg hN]; exact ⟨_, _, _, _, _, _, _, _, _, _, _, _, _, _, _, _, _, _, _, _, _, _, _, _, _, _, hO, hS, hx5, hH, hHr, hc6, hX, hXg, htl, hSo, hSn, hQ, hK, hP, hZ, hW, hU, (okX_add hok hT15 hTV hdp), (fun w => by omega)⟩, (hFa.mono (by decide))⟩
  by_cases wc1 : k = 1
  · skip
    subst wc1
    have hnu := hnu (by omega)
    refine s_aload_n C 1 dX7_does_0 rfl rfl ?_
    refine s_getf C 4 dX7_does_1 rfl f_X7_164 hO rfl ?_
    refine s_tabI C 112 dX7_does_4 (off := 108) (by decide) (by decide) rfl (by decide) ?_
    refine s_aload_n C 113 dX7_does_112 rfl rfl ?_
    refine s_aload_n C 114 dX7_does_113 rfl rfl ?_
    refine s_getf C 117 dX7_does_114 rfl f_X7_143 hO rfl ?_
    have hN : nu < T := by by_cases hN : nu < T; (· exact hN); rw [obX_1, if_neg hN] at hsm; cases hsm
    refine s_invV C 120 0 0 [] (mRv_of hO rfl) dX7_does_117 rfl m_X7_225 (n_drops hO hS hx8 hok (t := nu) hN) rfl rfl rfl ⟨by decide, by decide⟩ (Nat.le_of_ble_eq_true rfl) (by omega) (by omega) ?_
    rintro _ M2 ⟨rfl, ⟨S5, hS5, hx5⟩, hFa⟩
    dsimp only [Option.toList, List.cons_append, List.nil_append]
    have hO := hFa.at hO (by decide)
    have hX := hFa.at hX (by decide)
    have hSo := hFa.at hSo (by decide)
    have hSn := hFa.at hSn (by decide)
    have hH := hFa.at hH (by decide)
    have hQ := hFa.at hQ (by decide)
    have hK := hFa.at hK (by decide)
    have hP := hFa.at hP (by decide)
    have hZ := hFa.at hZ (by decide)
    have hW := hFa.at hW (by decide)
    have hU := hFa.at hU (by decide)
    have hS := hS5
    refine s_pop C 121 dX7_does_120 rfl rfl ?_
    refine s_goto C 226 dX7_does_121 (by decide) ?_
    exact s_vret C dX7_does_226 Tr rfl ⟨rfl, by rw [obX_1, if_pos hN]; exact ⟨_, _, _, _, _, _, _, _, _, _, _, _, _, _, _, _, _, _, _, _, _, _, _, _, _, _, hO, hS, hx5, hH, hHr, hc6, hX, hXg, htl, hSo, hSn, hQ, hK, hP, hZ, hW, hU, (okX_drop hok), (fun w => by omega)⟩, (hFa.mono (by decide))⟩
  by_cases wc2 : k = 2
  · skip
    subst wc2
    have hnu := hnu (by omega)
    refine s_aload_n C 1 dX7_does_0 rfl rfl ?_
    refine s_getf C 4 dX7_does_1 rfl f_X7_164 hO rfl ?_
    refine s_tabI C 124 dX7_does_4 (off := 120) (by decide) (by decide) rfl (by decide) ?_
    have hF : mZ TM M M := mZ.rf
    refine s_aload_n C 125 dX7_does_124 rfl rfl ?_
    refine s_getf C 128 dX7_does_125 rfl f_X7_7 hO rfl ?_
    refine s_iconst C 129 (nI 1) dX7_does_128 rfl (by decide) ?_
    refine s_aload_n C 130 dX7_does_129 rfl rfl ?_
    refine s_getf C 133 dX7_does_130 rfl f_X7_143 hO rfl ?_
    refine s_iastU C 134 dX7_does_133 rfl hS (by first | decide | omega) (by omega) (by omega) (fun M3 U4 => ?_)
    have hO := U4.o hS hO (by first | decide | omega)
    have hX := U4.o hS hX (by first | decide | omega)
    have hSo := U4.o hS hSo (by first | decide | omega)
    have hSn := U4.o hS hSn (by first | decide | omega)
    have hH := U4.o hS hH (by first | decide | omega)
    have hQ := U4.o hS hQ (by first | decide | omega)
    have hK := U4.o hS hK (by first | decide | omega)
    have hP := U4.o hS hP (by first | decide | omega)
    have hZ := U4.o hS hZ (by first | decide | omega)
    have hW := U4.o hS hW (by first | decide | omega)
    have hU := U4.o hS hU (by first | decide | omega)
    have hF := hF.put U4 hS (by first | decide | (simp; done) | (simp; omega) | (simp [*]; done))
    have hS := U4.s
    refine s_goto C 226 dX7_does_134 (by decide) ?_
    exact s_vret C dX7_does_226 Tr rfl ⟨rfl, ⟨_, _, _, _, _, _, _, _, _, _, _, _, _, _, _, _, _, _, _, _, _, _, _, _, _, _, hO, hS, (SR_mo hx8), hH, hHr, hc6, hX, hXg, htl, hSo, hSn, hQ, hK, hP, hZ, hW, hU, (okX_mo hok (h2 rfl)), (fun w => by omega)⟩, hF⟩
  by_cases wc3 : k = 3
  · skip
    subst wc3
    have hnu := hnu (by omega)
    refine s_aload_n C 1 dX7_does_0 rfl rfl ?_
    refine s_getf C 4 dX7_does_1 rfl f_X7_164 hO rfl ?_
    refine s_tabI C 137 dX7_does_4 (off := 133) (by decide) (by decide) rfl (by decide) ?_
    have hF : mZ TM M M := mZ.rf
    refine s_aload_n C 138 dX7_does_137 rfl rfl ?_
    refine s_getf C 141 dX7_does_138 rfl f_X7_7 hO rfl ?_
    refine s_iconst C 142 (nI 2) dX7_does_141 rfl (by decide) ?_
    refine s_aload_n C 143 dX7_does_142 rfl rfl ?_
    refine s_getf C 146 dX7_does_143 rfl f_X7_143 hO rfl ?_
    refine s_iastU C 147 dX7_does_146 rfl hS (by first | decide | omega) (by omega) (by omega) (fun M5 U6 => ?_)
    have hO := U6.o hS hO (by first | decide | omega)
    have hX := U6.o hS hX (by first | decide | omega)
    have hSo := U6.o hS hSo (by first | decide | omega)
    have hSn := U6.o hS hSn (by first | decide | omega)
    have hH := U6.o hS hH (by first | decide | omega)
    have hQ := U6.o hS hQ (by first | decide | omega)
    have hK := U6.o hS hK (by first | decide | omega)
    have hP := U6.o hS hP (by first | decide | omega)
    have hZ := U6.o hS hZ (by first | decide | omega)
    have hW := U6.o hS hW (by first | decide | omega)
    have hU := U6.o hS hU (by first | decide | omega)
    have hF := hF.put U6 hS (by first | decide | (simp; done) | (simp; omega) | (simp [*]; done))
    have hS := U6.s
    refine s_goto C 226 dX7_does_147 (by decide) ?_
    exact s_vret C dX7_does_226 Tr rfl ⟨rfl, ⟨_, _, _, _, _, _, _, _, _, _, _, _, _, _, _, _, _, _, _, _, _, _, _, _, _, _, hO, hS, (SR_od hx8), hH, hHr, hc6, hX, hXg, htl, hSo, hSn, hQ, hK, hP, hZ, hW, hU, (okX_od hok (h3 rfl)), (fun w => by omega)⟩, hF⟩
  by_cases wc4 : k = 4
  · skip
    subst wc4
    obtain ⟨hft, hto, hTV⟩ := ht (by omega)
    have hln := hTV.2.1
    refine s_aload_n C 1 dX7_does_0 rfl rfl ?_
    refine s_getf C 4 dX7_does_1 rfl f_X7_164 hO rfl ?_
    refine s_tabI C 162 dX7_does_4 (off := 158) (by decide) (by decide) rfl (by decide) ?_
    refine s_aload_n C 163 dX7_does_162 rfl rfl ?_
    refine s_invV C 166 0 0 [] (mRv_of hO rfl) dX7_does_163 rfl m_X7_207 (n_clears hO hS hx8) rfl rfl rfl ⟨by decide, by decide⟩ (Nat.le_of_ble_eq_true rfl) (by omega) (by omega) ?_
    rintro _ M7 ⟨rfl, ⟨S5, hS5, hx5⟩, hFa⟩
    dsimp only [Option.toList, List.cons_append, List.nil_append]
    have hO := hFa.at hO (by decide)
    have hX := hFa.at hX (by decide)
    have hSo := hFa.at hSo (by decide)
    have hSn := hFa.at hSn (by decide)
    have hH := hFa.at hH (by decide)
    have hQ := hFa.at hQ (by decide)
    have hK := hFa.at hK (by decide)
    have hP := hFa.at hP (by decide)
    have hZ := hFa.at hZ (by decide)
    have hW := hFa.at hW (by decide)
    have hU := hFa.at hU (by decide)
    have hS := hS5
    have hF : mZ TM M M7 := (hFa.mono (by decide))
    refine s_aload_n C 167 dX7_does_166 rfl rfl ?_
    refine s_getf C 170 dX7_does_167 rfl f_X7_134 hO rfl ?_
    refine s_istore_n C 171 dX7_does_170 rfl rfl rfl ?_
    dsimp only [List.set]
    suffices lp171 : ∀ (fu171 : Nat) (i : Nat) (S9 : Nat → Int32) (M9 : mM), en - i < fu171 → i ≤ en → be ≤ i → (∀ j, j < 3 ∨ 28 ≤ j → S9 j = S5 j) → (∀ j, j < i - be → S9 (4 + j) = g (be + j)) → M9 m = some (300, .inl (8, [.ref sa, .ref ha, .int (nI c), .ref xa, .int (nI tl), .ref ra, .ref la, .ref qa, .int (nI al), .ref ka, .int (nI rm), .ref pa, .int fs, .int fe, .ref za, .ref wa, .ref ua, .int (nI ap), .int (nI 115), .int (nI nu), .int (nI be), .int (nI en)])) → M9 sa = some (301, .inr (0, 444, .inl S9)) → M9 xa = some (303, .inr (0, 80, .inl xt)) → M9 ra = some (304, .inr (0, 384, .inl so)) → M9 la = some (305, .inr (0, 16, .inl sn)) → M9 ha = some (302, .inr (0, 2664, .inl H)) → M9 qa = some (306, .inr (0, 24, .inl Q)) → M9 ka = some (307, .inr (0, 16, .inl K)) → M9 pa = some (308, .inr (0, 16, .inl P)) → M9 za = some (309, .inr (0, 16, .inl Z)) → M9 wa = some (310, .inr (0, 16, .inl W)) → M9 ua = some (311, .inr (0, 25, .inl U)) → mZ TM M M9 → V X 0 0 171 [some (.ref m), some (.int (nI i))] [] M9 from lp171 (en + 1) be _ _ (by omega) (by omega) (by omega) (fun j hj => rfl) (fun j hj => by omega) hO hS hX hSo hSn hH hQ hK hP hZ hW hU hF
    intro fu171
    induction fu171 with
    | zero => intro i S9 M9 hi0 hi hib h4 h5 hO hS hX hSo hSn hH hQ hK hP hZ hW hU hF; omega
    | succ fu171 ih171 =>
      intro i S9 M9 hi0 hi hib h4 h5 hO hS hX hSo hSn hH hQ hK hP hZ hW hU hF
      refine s_iload_n C 172 dX7_does_171 rfl rfl ?_
      refine s_aload_n C 173 dX7_does_172 rfl rfl ?_
      refine s_getf C 176 dX7_does_173 rfl f_X7_140 hO rfl ?_
      refine s_icmp_geN C 204 179 dX7_does_176 (by decide) rfl (by omega) (by omega) (fun z176 => ?_) (fun z176 => ?_)
      · skip
        have hie : i = en := by omega
        refine s_aload_n C 205 dX7_does_204 rfl rfl ?_
        refine s_getf C 208 dX7_does_205 rfl f_X7_7 hO rfl ?_
        refine s_iconst C 209 (nI 3) dX7_does_208 rfl (by decide) ?_
        refine s_aload_n C 210 dX7_does_209 rfl rfl ?_
        refine s_getf C 213 dX7_does_210 rfl f_X7_140 hO rfl ?_
        refine s_aload_n C 214 dX7_does_213 rfl rfl ?_
        refine s_getf C 217 dX7_does_214 rfl f_X7_134 hO rfl ?_
        refine s_isubN C 218 dX7_does_217 rfl (by omega) ?_
        refine s_iastU C 219 dX7_does_218 rfl hS (by first | decide | omega) (by omega) (by omega) (fun M8 U9 => ?_)
        have hO := U9.o hS hO (by first | decide | omega)
        have hX := U9.o hS hX (by first | decide | omega)
        have hSo := U9.o hS hSo (by first | decide | omega)
        have hSn := U9.o hS hSn (by first | decide | omega)
        have hH := U9.o hS hH (by first | decide | omega)
        have hQ := U9.o hS hQ (by first | decide | omega)
        have hK := U9.o hS hK (by first | decide | omega)
        have hP := U9.o hS hP (by first | decide | omega)
        have hZ := U9.o hS hZ (by first | decide | omega)
        have hW := U9.o hS hW (by first | decide | omega)
        have hU := U9.o hS hU (by first | decide | omega)
        have hF := hF.put U9 hS (by first | decide | (simp; done) | (simp; omega) | (simp [*]; done))
        have hS := U9.s
        refine s_goto C 226 dX7_does_219 (by decide) ?_
        exact s_vret C dX7_does_226 Tr rfl ⟨rfl, ⟨_, _, _, _, _, _, _, _, _, _, _, _, _, _, _, _, _, _, _, _, _, _, _, _, _, _, hO, hS, (show SR _ T mo od (en - be) (fun j => g (be + j)) ln fl us from SR_q hx5 (fun j hj => by rw [pk_un (by omega)]; exact h4 j hj) pk_us (fun j hj => by rw [pk_un (by omega)]; exact h5 j (by omega))), hH, hHr, hc6, hX, hXg, htl, hSo, hSn, hQ, hK, hP, hZ, hW, hU, (show okX T mo od (en - be) (fun j => g (be + j)) ln fl from okX_q hok hTV.2.1 (TV_q hTV)), (fun w => by omega)⟩, hF⟩
      · skip
        refine s_aload_n C 180 dX7_does_179 rfl rfl ?_
        refine s_getf C 183 dX7_does_180 rfl f_X7_7 hO rfl ?_
        refine s_iconst C 184 (nI 4) dX7_does_183 rfl (by decide) ?_
        refine s_iload_n C 185 dX7_does_184 rfl rfl ?_
        refine s_iaddN C 186 dX7_does_185 rfl ?_
        refine s_aload_n C 187 dX7_does_186 rfl rfl ?_
        refine s_getf C 190 dX7_does_187 rfl f_X7_134 hO rfl ?_
        refine s_isubN C 191 dX7_does_190 rfl (by omega) ?_
        refine s_aload_n C 192 dX7_does_191 rfl rfl ?_
        refine s_getf C 195 dX7_does_192 rfl f_X7_16 hO rfl ?_
        refine s_iload_n C 196 dX7_does_195 rfl rfl ?_
        refine s_iald C 197 dX7_does_196 rfl hX (by omega) (by omega) ?_
        rw [hXg i (by omega)]
        refine s_iastU C 198 dX7_does_197 rfl hS (by first | decide | omega) (by omega) (by omega) (fun M10 U11 => ?_)
        have hO := U11.o hS hO (by first | decide | omega)
        have hX := U11.o hS hX (by first | decide | omega)
        have hSo := U11.o hS hSo (by first | decide | omega)
        have hSn := U11.o hS hSn (by first | decide | omega)
        have hH := U11.o hS hH (by first | decide | omega)
        have hQ := U11.o hS hQ (by first | decide | omega)
        have hK := U11.o hS hK (by first | decide | omega)
        have hP := U11.o hS hP (by first | decide | omega)
        have hZ := U11.o hS hZ (by first | decide | omega)
        have hW := U11.o hS hW (by first | decide | omega)
        have hU := U11.o hS hU (by first | decide | omega)
        have hF := hF.put U11 hS (by first | decide | (simp; done) | (simp; omega) | (simp [*]; done))
        have hS := U11.s
        refine s_iinc C 201 (nI (i + 1)) dX7_does_198 rfl rfl (by rw [← nI_add]; rfl) rfl ?_
        dsimp only [List.set]
        refine s_goto C 171 dX7_does_201 (by decide) ?_
        exact ih171 (i + 1) _ _ (by omega) (by omega) (by omega) (fun j hj => by rw [pk_un (by omega)]; exact h4 j hj) (fun j hj => by by_cases e : j = i - be; (· rw [e, show 4 + (i - be) = 4 + i - be by omega, pk_us, show be + (i - be) = i by omega]); rw [pk_un (by omega)]; exact h5 j (by omega)) hO hS hX hSo hSn hH hQ hK hP hZ hW hU hF
  by_cases wc5 : k = 5
  · skip
    subst wc5
    have hnu := hnu (by omega)
    refine s_aload_n C 1 dX7_does_0 rfl rfl ?_
    refine s_getf C 4 dX7_does_1 rfl f_X7_164 hO rfl ?_
    refine s_tabI C 150 dX7_does_4 (off := 146) (by decide) (by decide) rfl (by decide) ?_
    refine s_aload_n C 151 dX7_does_150 rfl rfl ?_
    refine s_aload_n C 152 dX7_does_151 rfl rfl ?_
    refine s_getf C 155 dX7_does_152 rfl f_X7_143 hO rfl ?_
    have hN : nu < (rkN T mo od ql q ln fl us T).1 := by by_cases hN : nu < (rkN T mo od ql q ln fl us T).1; (· exact hN); rw [obX_5, if_neg hN] at hsm; cases hsm
    obtain ⟨hkl, -⟩ := hki.2 nu hN
    refine s_invV C 158 0 0 [] (mRv_of hO rfl) dX7_does_155 rfl m_X7_228 (n_picks hO hS hx8 hok hK (k := nu) (t := (rkN T mo od ql q ln fl us T).2 nu) (by omega) hkl (hk5 rfl nu hN)) rfl rfl rfl ⟨by decide, by decide⟩ (Nat.le_of_ble_eq_true rfl) (by omega) (by omega) ?_
    rintro _ M12 ⟨rfl, ⟨S5, hS5, hx5⟩, hFa⟩
    dsimp only [Option.toList, List.cons_append, List.nil_append]
    have hO := hFa.at hO (by decide)
    have hX := hFa.at hX (by decide)
    have hSo := hFa.at hSo (by decide)
    have hSn := hFa.at hSn (by decide)
    have hH := hFa.at hH (by decide)
    have hQ := hFa.at hQ (by decide)
    have hK := hFa.at hK (by decide)
    have hP := hFa.at hP (by decide)
    have hZ := hFa.at hZ (by decide)
    have hW := hFa.at hW (by decide)
    have hU := hFa.at hU (by decide)
    have hS := hS5
    refine s_pop C 159 dX7_does_158 rfl rfl ?_
    refine s_goto C 226 dX7_does_159 (by decide) ?_
    exact s_vret C dX7_does_226 Tr rfl ⟨rfl, by rw [obX_5, if_pos hN]; exact ⟨_, _, _, _, _, _, _, _, _, _, _, _, _, _, _, _, _, _, _, _, _, _, _, _, _, _, hO, hS, hx5, hH, hHr, hc6, hX, hXg, htl, hSo, hSn, hQ, hK, hP, hZ, hW, hU, (okX_ql hok (Nat.zero_le _)), (fun w => by omega)⟩, (hFa.mono (by decide))⟩
  by_cases wc6 : k = 6
  · skip
    subst wc6
    refine s_aload_n C 1 dX7_does_0 rfl rfl ?_
    refine s_getf C 4 dX7_does_1 rfl f_X7_164 hO rfl ?_
    refine s_tabI C 222 dX7_does_4 (off := 218) (by decide) (by decide) rfl (by decide) ?_
    refine s_aload_n C 223 dX7_does_222 rfl rfl ?_
    refine s_invV C 226 0 0 [] (mRv_of hO rfl) dX7_does_223 rfl m_X7_207 (n_clears hO hS hx8) rfl rfl rfl ⟨by decide, by decide⟩ (Nat.le_of_ble_eq_true rfl) (by omega) (by omega) ?_
    rintro _ M13 ⟨rfl, ⟨S5, hS5, hx5⟩, hFa⟩
    dsimp only [Option.toList, List.cons_append, List.nil_append]
    have hO := hFa.at hO (by decide)
    have hX := hFa.at hX (by decide)
    have hSo := hFa.at hSo (by decide)
    have hSn := hFa.at hSn (by decide)
    have hH := hFa.at hH (by decide)
    have hQ := hFa.at hQ (by decide)
    have hK := hFa.at hK (by decide)
    have hP := hFa.at hP (by decide)
    have hZ := hFa.at hZ (by decide)
    have hW := hFa.at hW (by decide)
    have hU := hFa.at hU (by decide)
    have hS := hS5
    exact s_vret C dX7_does_226 Tr rfl ⟨rfl, ⟨_, _, _, _, _, _, _, _, _, _, _, _, _, _, _, _, _, _, _, _, _, _, _, _, _, _, hO, hS, hx5, hH, hHr, hc6, hX, hXg, htl, hSo, hSn, hQ, hK, hP, hZ, hW, hU, (okX_ql hok (Nat.zero_le _)), (fun w => by omega)⟩, (hFa.mono (by decide))⟩
  omega
