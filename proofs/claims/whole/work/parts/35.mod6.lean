/-! the reference as a whole -/
def TM : List Nat := [300, 301, 302, 303, 304, 305, 306, 307, 308, 309, 310, 311]
def nR (M : mM) (m : Nat) (x : mSt) (c : Nat) (hs : Nat → mSt) (tl : Nat) (g : Nat → Int32) : Prop := ∃ (sa ha xa ra la qa al ka rm pa : Nat) (fs fe : Int32) (za wa ua ap : Nat) (cm : Int32) (nu be en : Nat) (S H xt so sn Q K P Z W U : Nat → Int32), M m = some (300, .inl (8, nL sa ha c xa tl ra la qa al ka rm pa fs fe za wa ua ap cm nu be en)) ∧ M sa = some (301, .inr (0, 444, .inl S)) ∧ SRx S x ∧ M ha = some (302, .inr (0, 2664, .inl H)) ∧ hRow H c hs ∧ c ≤ 6 ∧ M xa = some (303, .inr (0, 80, .inl xt)) ∧ (∀ k, k < tl → xt k = g k) ∧ tl ≤ 80 ∧ M ra = some (304, .inr (0, 384, .inl so)) ∧ M la = some (305, .inr (0, 16, .inl sn)) ∧ M qa = some (306, .inr (0, 24, .inl Q)) ∧ M ka = some (307, .inr (0, 16, .inl K)) ∧ M pa = some (308, .inr (0, 16, .inl P)) ∧ M za = some (309, .inr (0, 16, .inl Z)) ∧ M wa = some (310, .inr (0, 16, .inl W)) ∧ M ua = some (311, .inr (0, 25, .inl U)) ∧ okS x
theorem nR.get {M : mM} {m T mo od ql c tl : Nat} {q : Nat → Int32} {ln : Nat → Nat} {fl : Nat → Nat → Int32} {us : Nat → Int32} {hs : Nat → mSt} {g : Nat → Int32} (h : nR M m (T, mo, od, ql, q, ln, fl, us) c hs tl g) : ∃ (sa ha xa ra la qa al ka rm pa : Nat) (fs fe : Int32) (za wa ua ap : Nat) (cm : Int32) (nu be en : Nat) (S H xt so sn Q K P Z W U : Nat → Int32), M m = some (300, .inl (8, nL sa ha c xa tl ra la qa al ka rm pa fs fe za wa ua ap cm nu be en)) ∧ M sa = some (301, .inr (0, 444, .inl S)) ∧ SR S T mo od ql q ln fl us ∧ M ha = some (302, .inr (0, 2664, .inl H)) ∧ hRow H c hs ∧ c ≤ 6 ∧ M xa = some (303, .inr (0, 80, .inl xt)) ∧ (∀ k, k < tl → xt k = g k) ∧ tl ≤ 80 ∧ M ra = some (304, .inr (0, 384, .inl so)) ∧ M la = some (305, .inr (0, 16, .inl sn)) ∧ M qa = some (306, .inr (0, 24, .inl Q)) ∧ M ka = some (307, .inr (0, 16, .inl K)) ∧ M pa = some (308, .inr (0, 16, .inl P)) ∧ M za = some (309, .inr (0, 16, .inl Z)) ∧ M wa = some (310, .inr (0, 16, .inl W)) ∧ M ua = some (311, .inr (0, 25, .inl U)) ∧ okX T mo od ql q ln fl := h
theorem nR_rv {G : mG} {M : mM} {m : Nat} {x : mSt} {c : Nat} {hs : Nat → mSt} {tl : Nat} {g : Nat → Int32} (h : nR M m x c hs tl g) : mRv G M RX7 m := by
  obtain ⟨sa, ha, xa, ra, la, qa, al, ka, rm, pa, fs, fe, za, wa, ua, ap, cm, nu, be, en, S, H, xt, so, sn, Q, K, P, Z, W, U, hO, -⟩ := h
  exact mRv_of hO rfl
theorem nR.at {M M1 : mM} {Ts : List Nat} {m : Nat} {x : mSt} {c : Nat} {hs : Nat → mSt} {tl : Nat} {g : Nat → Int32} (hF : mZ Ts M M1) (hT : ∀ t, t ∈ Ts → t < 300) (h : nR M m x c hs tl g) : nR M1 m x c hs tl g := by
  obtain ⟨sa, ha, xa, ra, la, qa, al, ka, rm, pa, fs, fe, za, wa, ua, ap, cm, nu, be, en, S, H, xt, so, sn, Q, K, P, Z, W, U, hO, hS, hx, hH, hHr, hc6, hX, hXg, htl, hSo, hSn, hQ, hK, hP, hZ, hW, hU, hok⟩ := h
  have no : ∀ t, 300 ≤ t → t ∉ Ts := fun t h1 h2 => absurd (hT t h2) (by omega)
  exact ⟨sa, ha, xa, ra, la, qa, al, ka, rm, pa, fs, fe, za, wa, ua, ap, cm, nu, be, en, S, H, xt, so, sn, Q, K, P, Z, W, U, hF.at hO (no _ (by omega)), hF.at hS (no _ (by omega)), hx, hF.at hH (no _ (by omega)), hHr, hc6, hF.at hX (no _ (by omega)), hXg, htl, hF.at hSo (no _ (by omega)), hF.at hSn (no _ (by omega)), hF.at hQ (no _ (by omega)), hF.at hK (no _ (by omega)), hF.at hP (no _ (by omega)), hF.at hZ (no _ (by omega)), hF.at hW (no _ (by omega)), hF.at hU (no _ (by omega)), hok⟩
theorem wiB_k {a : Int32} {k : Nat} (hk : k < 1000) : wiB a (nI 0) (nI k) = isIx a (k + 1) := by
  unfold wiB isIx
  refine decide_eq_decide.mpr ?_
  rw [nI_0, Int32.lt_iff_toInt_lt (x := nI k), Int32.le_iff_toInt_le, nI_toInt (by omega), nI_toInt (by omega)]
  refine and_congr Iff.rfl ?_
  omega
theorem wiB_ty {a : Int32} : wiB a (nI 32) (nI 126) = tyB a := by
  unfold wiB tyB
  exact decide_eq_decide.mpr (and_congr Iff.rfl i32_le.symm)
/-! the steps keep what holds of a state -/
theorem okX_add {T mo od ql n2 : Nat} {q f2 : Nat → Int32} {ln : Nat → Nat} {fl : Nat → Nat → Int32} (h : okX T mo od ql q ln fl) (hT : T < 16) (hv : TV n2 f2) (hd : dupB T ln fl f2 n2 = false) : okX (T + 1) mo od ql q (adF ln T n2) (adF fl T f2) := by
  have hd2 : ∀ u, u < T → eqT (fl u) f2 (ln u) n2 = false := fun u hu => by
    cases e : eqT (fl u) f2 (ln u) n2 with
    | false => rfl
    | true => unfold dupB at hd; exact absurd ⟨u, hu, e⟩ (of_decide_eq_false hd)
  have hsym : ∀ (f g : Nat → Int32) (n m : Nat), eqT f g n m = false → eqT g f m n = false := fun f g n m h => by
    cases e : eqT g f m n with
    | false => rfl
    | true =>
      unfold eqT mtB at e h
      simp only [Bool.and_eq_true, decide_eq_true_eq, Nat.zero_add] at e
      rw [decide_eq_true e.1.symm, Bool.true_and] at h
      exact absurd (fun x hx => by rw [Nat.zero_add]; exact (e.2 x (by omega)).symm) (of_decide_eq_false h)
  refine ⟨by omega, h.m4, h.o3, h.q24, fun t ht => ?_, fun t u ht hu hne => ?_, h.Q⟩
  · by_cases e : t = T
    · rw [e, adF_s, adF_s]; exact hv
    · rw [adF_n e, adF_n e]; exact h.V t (by omega)
  · by_cases e : t = T
    · rw [e, adF_s, adF_s, adF_n (by omega), adF_n (by omega)]
      exact hsym _ _ _ _ (hd2 u (by omega))
    · rw [adF_n e, adF_n e]
      by_cases e2 : u = T
      · rw [e2, adF_s, adF_s]; exact hd2 t (by omega)
      · rw [adF_n e2, adF_n e2]; exact h.D t u (by omega) (by omega) hne
theorem okX_drop {T mo od ql t : Nat} {q : Nat → Int32} {ln : Nat → Nat} {fl : Nat → Nat → Int32} (h : okX T mo od ql q ln fl) : okX (T - 1) mo od ql q (dpF ln t) (dpF fl t) := by
  refine ⟨by have := h.T16; omega, h.m4, h.o3, h.q24, fun i hi => ?_, fun i j hi hj hne => ?_, h.Q⟩
  · unfold dpF
    by_cases e : i < t
    · rw [if_pos e, if_pos e]; exact h.V i (by omega)
    · rw [if_neg e, if_neg e]; exact h.V (i + 1) (by omega)
  · unfold dpF
    by_cases e : i < t
    · rw [if_pos e, if_pos e]
      by_cases e2 : j < t
      · rw [if_pos e2, if_pos e2]; exact h.D i j (by omega) (by omega) hne
      · rw [if_neg e2, if_neg e2]; exact h.D i (j + 1) (by omega) (by omega) (by omega)
    · rw [if_neg e, if_neg e]
      by_cases e2 : j < t
      · rw [if_pos e2, if_pos e2]; exact h.D (i + 1) j (by omega) (by omega) (by omega)
      · rw [if_neg e2, if_neg e2]; exact h.D (i + 1) (j + 1) (by omega) (by omega) (by omega)
theorem okX_mo {T mo mo2 od ql : Nat} {q : Nat → Int32} {ln : Nat → Nat} {fl : Nat → Nat → Int32} (h : okX T mo od ql q ln fl) (h2 : mo2 < 4) : okX T mo2 od ql q ln fl := ⟨h.T16, h2, h.o3, h.q24, h.V, h.D, h.Q⟩
theorem okX_od {T mo od od2 ql : Nat} {q : Nat → Int32} {ln : Nat → Nat} {fl : Nat → Nat → Int32} (h : okX T mo od ql q ln fl) (h2 : od2 < 3) : okX T mo od2 ql q ln fl := ⟨h.T16, h.m4, h2, h.q24, h.V, h.D, h.Q⟩
theorem okX_ql {T mo od ql ql2 : Nat} {q : Nat → Int32} {ln : Nat → Nat} {fl : Nat → Nat → Int32} (h : okX T mo od ql q ln fl) (h2 : ql2 ≤ ql) : okX T mo od ql2 q ln fl := ⟨h.T16, h.m4, h.o3, by have := h.q24; omega, h.V, h.D, fun k hk => h.Q k (by omega)⟩
theorem okX_q {T mo od ql ql2 : Nat} {q q2 : Nat → Int32} {ln : Nat → Nat} {fl : Nat → Nat → Int32} (h : okX T mo od ql q ln fl) (h2 : ql2 ≤ 24) (h3 : ∀ k, k + 1 < ql2 → q2 k = nI 32 → q2 (k + 1) ≠ nI 32) : okX T mo od ql2 q2 ln fl := ⟨h.T16, h.m4, h.o3, h2, h.V, h.D, h3⟩
theorem okX_ask {T mo od ql : Nat} {q : Nat → Int32} {ln : Nat → Nat} {fl : Nat → Nat → Int32} {a : Int32} (h : okX T mo od ql q ln fl) (hl : ql < 24) (ha : ¬ (a = nI 32 ∧ qeB ql q = false)) : okX T mo od (ql + 1) (upd q ql a) ln fl := by
  refine okX_q h (by omega) (fun k hk hb => ?_)
  rw [pk_un (by omega)] at hb
  by_cases e : k + 1 = ql
  · rw [e, pk_us]
    intro e2
    refine ha ⟨e2, ?_⟩
    unfold qeB
    refine decide_eq_false (fun w => w.2 ?_)
    rw [show ql - 1 = k by omega]
    exact hb
  · rw [pk_un e]
    exact h.Q k (by omega) hb
theorem SR_mo {S : Nat → Int32} {T mo mo2 od ql : Nat} {q : Nat → Int32} {ln : Nat → Nat} {fl : Nat → Nat → Int32} {us : Nat → Int32} (hx : SR S T mo od ql q ln fl us) : SR (upd S 1 (nI mo2)) T mo2 od ql q ln fl us := by
  obtain ⟨g0, g1, g4, g5, g6, g7⟩ := hx
  exact ⟨by rw [pk_un (by omega), g0], pk_us, by rw [pk_un (by omega), g4], by rw [pk_un (by omega), g5], fun k hk => by rw [pk_un (by omega), g6 k hk], fun t ht => ⟨by rw [pk_un (by omega), (g7 t ht).1], by rw [pk_un (by omega), (g7 t ht).2.1], fun k hk => by rw [pk_un (by omega), (g7 t ht).2.2 k hk]⟩⟩
theorem SR_od {S : Nat → Int32} {T mo od od2 ql : Nat} {q : Nat → Int32} {ln : Nat → Nat} {fl : Nat → Nat → Int32} {us : Nat → Int32} (hx : SR S T mo od ql q ln fl us) : SR (upd S 2 (nI od2)) T mo od2 ql q ln fl us := by
  obtain ⟨g0, g1, g4, g5, g6, g7⟩ := hx
  exact ⟨by rw [pk_un (by omega), g0], by rw [pk_un (by omega), g1], pk_us, by rw [pk_un (by omega), g5], fun k hk => by rw [pk_un (by omega), g6 k hk], fun t ht => ⟨by rw [pk_un (by omega), (g7 t ht).1], by rw [pk_un (by omega), (g7 t ht).2.1], fun k hk => by rw [pk_un (by omega), (g7 t ht).2.2 k hk]⟩⟩
/-- a query's characters and length are written -/
theorem SR_q {S S' : Nat → Int32} {T mo od ql ql2 : Nat} {q q2 : Nat → Int32} {ln : Nat → Nat} {fl : Nat → Nat → Int32} {us : Nat → Int32} (hx : SR S T mo od ql q ln fl us) (h : ∀ i, i < 3 ∨ 28 ≤ i → S' i = S i) (h3 : S' 3 = nI ql2) (h4 : ∀ k, k < ql2 → S' (4 + k) = q2 k) : SR S' T mo od ql2 q2 ln fl us := by
  obtain ⟨g0, g1, g4, g5, g6, g7⟩ := hx
  exact ⟨by rw [h 0 (by omega), g0], by rw [h 1 (by omega), g1], by rw [h 2 (by omega), g4], h3, h4, fun t ht => ⟨by rw [h _ (by omega), (g7 t ht).1], by rw [h _ (by omega), (g7 t ht).2.1], fun k hk => by rw [h _ (by omega), (g7 t ht).2.2 k hk]⟩⟩
theorem SR_back {S : Nat → Int32} {T mo od ql n2 : Nat} {q f2 : Nat → Int32} {ln : Nat → Nat} {fl : Nat → Nat → Int32} {us : Nat → Int32} {v : Int32} (hx : SR S (T + 1 - 1) mo od ql q (dpF (adF ln T n2) T) (dpF (adF fl T f2) T) (dpF (adF us T v) T)) : SR S T mo od ql q ln fl us := by
  obtain ⟨g0, g1, g4, g5, g6, g7⟩ := hx
  have e : ∀ {α : Type} (f : Nat → α) (w : α) (t : Nat), t < T → dpF (adF f T w) T t = f t := fun f w t ht => by
    unfold dpF; rw [if_pos ht, adF_n (by omega)]
  refine ⟨g0, g1, g4, g5, g6, fun t ht => ?_⟩
  have := g7 t ht
  rw [e ln _ t ht, e fl _ t ht, e us _ t ht] at this
  exact this
theorem bst_z {P : Nat → Nat → Bool} (h : (bst P).2 = 0) : (bst P).1 = 0 := by
  unfold bst at h ⊢
  split
  · rfl
  · rename_i l hl
    rw [hl] at h
    have := (fnd_some _ _ _).mp hl
    have h : l = 0 := h
    omega
theorem fd_inj {P P' : Nat → Nat → Bool} : (fdS (bst P) = fdS (bst P') ∧ fdL (bst P) = fdL (bst P')) ↔ bst P = bst P' := by
  constructor
  · rintro ⟨h1, h2⟩
    have a1 := bst_lt (P := P)
    have a2 := bst_lt (P := P')
    have e2 : (bst P).2 = (bst P').2 := by
      by_cases e : 0 < (bst P).2
      · by_cases e' : 0 < (bst P').2
        · unfold fdL at h2
          rw [if_pos e, if_pos e'] at h2
          exact (nI_eq (by omega) (by omega)).mp h2
        · have := (fdL_n (k := bst P') (by omega)).mpr e'
          rw [this] at h2
          exact absurd e ((fdL_n (by omega)).mp h2)
      · have := (fdL_n (k := bst P) (by omega)).mpr e
        rw [this] at h2
        have := (fdL_n (by omega)).mp h2.symm
        omega
    refine Prod.ext ?_ e2
    by_cases e : 0 < (bst P).2
    · unfold fdS at h1
      rw [if_pos e, if_pos (by omega)] at h1
      exact (nI_eq (by omega) (by omega)).mp h1
    · rw [bst_z (by omega), bst_z (by omega)]
  · intro h
    rw [h]
    exact ⟨rfl, rfl⟩
set_option maxRecDepth 100000 in
set_option maxHeartbeats 4000000 in
theorem nn_titles {G : mG} {M : mM} {m T mo od ql c tl : Nat} {q : Nat → Int32} {ln : Nat → Nat} {fl : Nat → Nat → Int32} {us : Nat → Int32} {hs : Nat → mSt} {g : Nat → Int32} (hn : nR M m (T, mo, od, ql, q, ln, fl, us) c hs tl g)  : CC G iX7_titles 0 0 [.ref m] M (fun r M1 => r = some (.int (nI T)) ∧ M = M1) := by
  refine CC.of rfl (Nat.le_of_ble_eq_true rfl) rfl (fun X C Tr => ?_)
  show V X 0 0 0 [some (.ref m)] [] M
  obtain ⟨sa, ha, xa, ra, la, qa, al, ka, rm, pa, fs, fe, za, wa, ua, ap, cm, nu, be, en, S, H, xt, so, sn, Q, K, P, Z, W, U, hO, hS, hx, hH, hHr, hc6, hX, hXg, htl, hSo, hSn, hQ, hK, hP, hZ, hW, hU, hok⟩ := hn.get
  have hx8 := hx
  obtain ⟨hx0, hx1, hx2, hx3, hxq, hxt⟩ := hx
  have hT16 := hok.T16
  have hm4 := hok.m4
  have ho3 := hok.o3
  have hq24 := hok.q24
  refine s_aload_n C 1 dX7_titles_0 rfl rfl ?_
  refine s_getf C 4 dX7_titles_1 rfl f_X7_7 hO rfl ?_
  refine s_iconst C 5 (nI 0) dX7_titles_4 rfl (by decide) ?_
  refine s_iald C 6 dX7_titles_5 rfl hS (by omega) (by omega) ?_
  rw [hx0]
  exact s_iret C dX7_titles_6 Tr rfl ⟨rfl, rfl⟩

set_option maxRecDepth 100000 in
set_option maxHeartbeats 4000000 in
theorem nn_mode {G : mG} {M : mM} {m T mo od ql c tl : Nat} {q : Nat → Int32} {ln : Nat → Nat} {fl : Nat → Nat → Int32} {us : Nat → Int32} {hs : Nat → mSt} {g : Nat → Int32} (hn : nR M m (T, mo, od, ql, q, ln, fl, us) c hs tl g)  : CC G iX7_mode 0 0 [.ref m] M (fun r M1 => r = some (.int (nI mo)) ∧ M = M1) := by
  refine CC.of rfl (Nat.le_of_ble_eq_true rfl) rfl (fun X C Tr => ?_)
  show V X 0 0 0 [some (.ref m)] [] M
  obtain ⟨sa, ha, xa, ra, la, qa, al, ka, rm, pa, fs, fe, za, wa, ua, ap, cm, nu, be, en, S, H, xt, so, sn, Q, K, P, Z, W, U, hO, hS, hx, hH, hHr, hc6, hX, hXg, htl, hSo, hSn, hQ, hK, hP, hZ, hW, hU, hok⟩ := hn.get
  have hx8 := hx
  obtain ⟨hx0, hx1, hx2, hx3, hxq, hxt⟩ := hx
  have hT16 := hok.T16
  have hm4 := hok.m4
  have ho3 := hok.o3
  have hq24 := hok.q24
  refine s_aload_n C 1 dX7_mode_0 rfl rfl ?_
  refine s_getf C 4 dX7_mode_1 rfl f_X7_7 hO rfl ?_
  refine s_iconst C 5 (nI 1) dX7_mode_4 rfl (by decide) ?_
  refine s_iald C 6 dX7_mode_5 rfl hS (by omega) (by omega) ?_
  rw [hx1]
  exact s_iret C dX7_mode_6 Tr rfl ⟨rfl, rfl⟩

set_option maxRecDepth 100000 in
set_option maxHeartbeats 4000000 in
theorem nn_order {G : mG} {M : mM} {m T mo od ql c tl : Nat} {q : Nat → Int32} {ln : Nat → Nat} {fl : Nat → Nat → Int32} {us : Nat → Int32} {hs : Nat → mSt} {g : Nat → Int32} (hn : nR M m (T, mo, od, ql, q, ln, fl, us) c hs tl g)  : CC G iX7_order 0 0 [.ref m] M (fun r M1 => r = some (.int (nI od)) ∧ M = M1) := by
  refine CC.of rfl (Nat.le_of_ble_eq_true rfl) rfl (fun X C Tr => ?_)
  show V X 0 0 0 [some (.ref m)] [] M
  obtain ⟨sa, ha, xa, ra, la, qa, al, ka, rm, pa, fs, fe, za, wa, ua, ap, cm, nu, be, en, S, H, xt, so, sn, Q, K, P, Z, W, U, hO, hS, hx, hH, hHr, hc6, hX, hXg, htl, hSo, hSn, hQ, hK, hP, hZ, hW, hU, hok⟩ := hn.get
  have hx8 := hx
  obtain ⟨hx0, hx1, hx2, hx3, hxq, hxt⟩ := hx
  have hT16 := hok.T16
  have hm4 := hok.m4
  have ho3 := hok.o3
  have hq24 := hok.q24
  refine s_aload_n C 1 dX7_order_0 rfl rfl ?_
  refine s_getf C 4 dX7_order_1 rfl f_X7_7 hO rfl ?_
  refine s_iconst C 5 (nI 2) dX7_order_4 rfl (by decide) ?_
  refine s_iald C 6 dX7_order_5 rfl hS (by omega) (by omega) ?_
  rw [hx2]
  exact s_iret C dX7_order_6 Tr rfl ⟨rfl, rfl⟩

set_option maxRecDepth 100000 in
set_option maxHeartbeats 4000000 in
theorem nn_queryLength {G : mG} {M : mM} {m T mo od ql c tl : Nat} {q : Nat → Int32} {ln : Nat → Nat} {fl : Nat → Nat → Int32} {us : Nat → Int32} {hs : Nat → mSt} {g : Nat → Int32} (hn : nR M m (T, mo, od, ql, q, ln, fl, us) c hs tl g)  : CC G iX7_queryLength 0 0 [.ref m] M (fun r M1 => r = some (.int (nI ql)) ∧ M = M1) := by
  refine CC.of rfl (Nat.le_of_ble_eq_true rfl) rfl (fun X C Tr => ?_)
  show V X 0 0 0 [some (.ref m)] [] M
  obtain ⟨sa, ha, xa, ra, la, qa, al, ka, rm, pa, fs, fe, za, wa, ua, ap, cm, nu, be, en, S, H, xt, so, sn, Q, K, P, Z, W, U, hO, hS, hx, hH, hHr, hc6, hX, hXg, htl, hSo, hSn, hQ, hK, hP, hZ, hW, hU, hok⟩ := hn.get
  have hx8 := hx
  obtain ⟨hx0, hx1, hx2, hx3, hxq, hxt⟩ := hx
  have hT16 := hok.T16
  have hm4 := hok.m4
  have ho3 := hok.o3
  have hq24 := hok.q24
  refine s_aload_n C 1 dX7_queryLength_0 rfl rfl ?_
  refine s_getf C 4 dX7_queryLength_1 rfl f_X7_7 hO rfl ?_
  refine s_iconst C 5 (nI 3) dX7_queryLength_4 rfl (by decide) ?_
  refine s_iald C 6 dX7_queryLength_5 rfl hS (by omega) (by omega) ?_
  rw [hx3]
  exact s_iret C dX7_queryLength_6 Tr rfl ⟨rfl, rfl⟩

set_option maxRecDepth 100000 in
set_option maxHeartbeats 4000000 in
theorem nn_queryCharacter {G : mG} {M : mM} {m T mo od ql c tl : Nat} {q : Nat → Int32} {ln : Nat → Nat} {fl : Nat → Nat → Int32} {us : Nat → Int32} {hs : Nat → mSt} {g : Nat → Int32} (hn : nR M m (T, mo, od, ql, q, ln, fl, us) c hs tl g) {a : Int32} : CC G iX7_queryCharacter 0 0 [.ref m, .int a] M (fun r M1 => r = some (.int (if isIx a ql = true then q a.toNatClampNeg else -1)) ∧ M = M1) := by
  refine CC.of rfl (Nat.le_of_ble_eq_true rfl) rfl (fun X C Tr => ?_)
  show V X 0 0 0 [some (.ref m), some (.int a)] [] M
  obtain ⟨sa, ha, xa, ra, la, qa, al, ka, rm, pa, fs, fe, za, wa, ua, ap, cm, nu, be, en, S, H, xt, so, sn, Q, K, P, Z, W, U, hO, hS, hx, hH, hHr, hc6, hX, hXg, htl, hSo, hSn, hQ, hK, hP, hZ, hW, hU, hok⟩ := hn.get
  have hx8 := hx
  obtain ⟨hx0, hx1, hx2, hx3, hxq, hxt⟩ := hx
  have hT16 := hok.T16
  have hm4 := hok.m4
  have ho3 := hok.o3
  have hq24 := hok.q24
  refine s_iload_n C 1 dX7_queryCharacter_0 rfl rfl ?_
  refine s_iconst C 2 (nI 0) dX7_queryCharacter_1 rfl (by decide) ?_
  refine s_aload_n C 3 dX7_queryCharacter_2 rfl rfl ?_
  refine s_getf C 6 dX7_queryCharacter_3 rfl f_X7_7 hO rfl ?_
  refine s_iconst C 7 (nI 3) dX7_queryCharacter_6 rfl (by decide) ?_
  refine s_iald C 8 dX7_queryCharacter_7 rfl hS (by omega) (by omega) ?_
  rw [hx3]
  refine s_iconst C 9 (nI 1) dX7_queryCharacter_8 rfl (by decide) ?_
  refine s_isub C 10 dX7_queryCharacter_9 rfl ?_
  refine s_invS C 13 0 0 [] dX7_queryCharacter_10 rfl m_X7_47 (n_within) rfl rfl rfl ⟨by decide, by decide⟩ (Nat.le_of_ble_eq_true rfl) (by omega) (by omega) ?_
  rintro _ M1 ⟨rfl, rfl⟩
  dsimp only [Option.toList, List.cons_append, List.nil_append]
  rw [wiB_ix (by omega)]
  refine s_if_eqB C 27 16 dX7_queryCharacter_13 (by decide) rfl (fun z13 => ?_) (fun z13 => ?_)
  · skip
    have hz9 := z13
    refine s_iconst C 28 (-1) dX7_queryCharacter_27 rfl (by decide) ?_
    exact s_iret C dX7_queryCharacter_28 Tr rfl ⟨by rw [hz9]; rfl, rfl⟩
  · skip
    obtain ⟨k, hk9, hqk⟩ := isIx_of (x := a) (c := ql) z13 (by omega)
    subst hqk
    refine s_aload_n C 17 dX7_queryCharacter_16 rfl rfl ?_
    refine s_getf C 20 dX7_queryCharacter_17 rfl f_X7_7 hO rfl ?_
    refine s_iconst C 21 (nI 4) dX7_queryCharacter_20 rfl (by decide) ?_
    refine s_iload_n C 22 dX7_queryCharacter_21 rfl rfl ?_
    refine s_iaddN C 23 dX7_queryCharacter_22 rfl ?_
    refine s_iald C 24 dX7_queryCharacter_23 rfl hS (by omega) (by omega) ?_
    rw [hxq k hk9]
    refine s_goto C 28 dX7_queryCharacter_24 (by decide) ?_
    exact s_iret C dX7_queryCharacter_28 Tr rfl ⟨by rw [isIx_nI hk9 (by omega), if_pos rfl, nI_clamp (by omega)], rfl⟩

set_option maxRecDepth 100000 in
set_option maxHeartbeats 4000000 in
theorem nn_character {G : mG} {M : mM} {m T mo od ql c tl : Nat} {q : Nat → Int32} {ln : Nat → Nat} {fl : Nat → Nat → Int32} {us : Nat → Int32} {hs : Nat → mSt} {g : Nat → Int32} (hn : nR M m (T, mo, od, ql, q, ln, fl, us) c hs tl g) {a b : Int32} : CC G iX7_character 0 0 [.ref m, .int a, .int b] M (fun r M1 => r = some (.int (if (isIx a T && isIx b (ln a.toNatClampNeg)) = true then fl a.toNatClampNeg b.toNatClampNeg else -1)) ∧ M = M1) := by
  refine CC.of rfl (Nat.le_of_ble_eq_true rfl) rfl (fun X C Tr => ?_)
  show V X 0 0 0 [some (.ref m), some (.int a), some (.int b)] [] M
  obtain ⟨sa, ha, xa, ra, la, qa, al, ka, rm, pa, fs, fe, za, wa, ua, ap, cm, nu, be, en, S, H, xt, so, sn, Q, K, P, Z, W, U, hO, hS, hx, hH, hHr, hc6, hX, hXg, htl, hSo, hSn, hQ, hK, hP, hZ, hW, hU, hok⟩ := hn.get
  have hx8 := hx
  obtain ⟨hx0, hx1, hx2, hx3, hxq, hxt⟩ := hx
  have hT16 := hok.T16
  have hm4 := hok.m4
  have ho3 := hok.o3
  have hq24 := hok.q24
  refine s_aload_n C 1 dX7_character_0 rfl rfl ?_
  refine s_iload_n C 2 dX7_character_1 rfl rfl ?_
  refine s_invV C 5 0 0 [] (mRv_of hO rfl) dX7_character_2 rfl m_X7_216 (n_isTitle hO hS hx8 hok (a := a)) rfl rfl rfl ⟨by decide, by decide⟩ (Nat.le_of_ble_eq_true rfl) (by omega) (by omega) ?_
  rintro _ M1 ⟨rfl, rfl⟩
  dsimp only [Option.toList, List.cons_append, List.nil_append]
  refine s_if_eqB C 32 8 dX7_character_5 (by decide) rfl (fun z5 => ?_) (fun z5 => ?_)
  · skip
    have hz9 : (isIx a T && isIx b (ln a.toNatClampNeg)) = false := by rw [z5]; rfl
    refine s_iconst C 33 (-1) dX7_character_32 rfl (by decide) ?_
    exact s_iret C dX7_character_33 Tr rfl ⟨by rw [hz9]; rfl, rfl⟩
  · skip
    obtain ⟨t, ht9, hqt⟩ := isIx_of (x := a) (c := T) z5 (by omega)
    subst hqt
    have hlt := (hok.V t ht9).2.1
    refine s_iload_n C 9 dX7_character_8 rfl rfl ?_
    refine s_iconst C 10 (nI 0) dX7_character_9 rfl (by decide) ?_
    refine s_aload_n C 11 dX7_character_10 rfl rfl ?_
    refine s_iload_n C 12 dX7_character_11 rfl rfl ?_
    refine s_invV C 15 0 0 [.int (nI 0), .int b] (mRv_of hO rfl) dX7_character_12 rfl m_X7_58 (n_len hO hS hx8 (t := t) (by omega) hT16) rfl rfl rfl ⟨by decide, by decide⟩ (Nat.le_of_ble_eq_true rfl) (by omega) (by omega) ?_
    rintro _ M2 ⟨rfl, rfl⟩
    dsimp only [Option.toList, List.cons_append, List.nil_append]
    refine s_iconst C 16 (nI 1) dX7_character_15 rfl (by decide) ?_
    refine s_isub C 17 dX7_character_16 rfl ?_
    refine s_invS C 20 0 0 [] dX7_character_17 rfl m_X7_47 (n_within) rfl rfl rfl ⟨by decide, by decide⟩ (Nat.le_of_ble_eq_true rfl) (by omega) (by omega) ?_
    rintro _ M3 ⟨rfl, rfl⟩
    dsimp only [Option.toList, List.cons_append, List.nil_append]
    rw [wiB_ix (by omega)]
    refine s_if_eqB C 32 23 dX7_character_20 (by decide) rfl (fun z20 => ?_) (fun z20 => ?_)
    · skip
      have hz9 : (isIx (nI t) T && isIx b (ln (nI t).toNatClampNeg)) = false := by rw [nI_clamp (by omega), z20]; exact Bool.and_false _
      refine s_iconst C 33 (-1) dX7_character_32 rfl (by decide) ?_
      exact s_iret C dX7_character_33 Tr rfl ⟨by rw [hz9]; rfl, rfl⟩
    · skip
      obtain ⟨j, hj9, hqj⟩ := isIx_of (x := b) (c := ln t) z20 (by omega)
      subst hqj
      refine s_aload_n C 24 dX7_character_23 rfl rfl ?_
      refine s_iload_n C 25 dX7_character_24 rfl rfl ?_
      refine s_iload_n C 26 dX7_character_25 rfl rfl ?_
      refine s_invV C 29 0 0 [] (mRv_of hO rfl) dX7_character_26 rfl m_X7_55 (n_char hO hS hx8 (t := t) (k := j) (by omega) hT16 (by omega) (hok.V _ (by omega)).2.1) rfl rfl rfl ⟨by decide, by decide⟩ (Nat.le_of_ble_eq_true rfl) (by omega) (by omega) ?_
      rintro _ M4 ⟨rfl, rfl⟩
      dsimp only [Option.toList, List.cons_append, List.nil_append]
      refine s_goto C 33 dX7_character_29 (by decide) ?_
      exact s_iret C dX7_character_33 Tr rfl ⟨by rw [nI_clamp (by omega), nI_clamp (by omega), isIx_nI ht9 (by omega), isIx_nI hj9 (by omega)]; rfl, rfl⟩

set_option maxRecDepth 100000 in
set_option maxHeartbeats 4000000 in
theorem nn_type {G : mG} {M : mM} {m T mo od ql c tl : Nat} {q : Nat → Int32} {ln : Nat → Nat} {fl : Nat → Nat → Int32} {us : Nat → Int32} {hs : Nat → mSt} {g : Nat → Int32} (hn : nR M m (T, mo, od, ql, q, ln, fl, us) c hs tl g) {a : Int32} : CC G iX7_type 0 0 [.ref m, .int a] M (fun r M1 => r = some (.int (if tyB a = true then if tl < 80 then nI (tl + 1) else -4 else -2)) ∧ nR M1 m (T, mo, od, ql, q, ln, fl, us) c hs (if (tyB a = true ∧ tl < 80) then tl + 1 else tl) (if (tyB a = true ∧ tl < 80) then upd g tl a else g) ∧ mZ TM M M1) := by
  refine CC.of rfl (Nat.le_of_ble_eq_true rfl) rfl (fun X C Tr => ?_)
  show V X 0 0 0 [some (.ref m), some (.int a)] [] M
  obtain ⟨sa, ha, xa, ra, la, qa, al, ka, rm, pa, fs, fe, za, wa, ua, ap, cm, nu, be, en, S, H, xt, so, sn, Q, K, P, Z, W, U, hO, hS, hx, hH, hHr, hc6, hX, hXg, htl, hSo, hSn, hQ, hK, hP, hZ, hW, hU, hok⟩ := hn.get
  have hx8 := hx
  obtain ⟨hx0, hx1, hx2, hx3, hxq, hxt⟩ := hx
  have hT16 := hok.T16
  have hm4 := hok.m4
  have ho3 := hok.o3
  have hq24 := hok.q24
  refine s_iload_n C 1 dX7_type_0 rfl rfl ?_
  refine s_bipush C 3 (nI 32) dX7_type_1 rfl (by decide) ?_
  refine s_bipush C 5 (nI 126) dX7_type_3 rfl (by decide) ?_
  refine s_invS C 8 0 0 [] dX7_type_5 rfl m_X7_47 (n_within) rfl rfl rfl ⟨by decide, by decide⟩ (Nat.le_of_ble_eq_true rfl) (by omega) (by omega) ?_
  rintro _ M1 ⟨rfl, rfl⟩
  dsimp only [Option.toList, List.cons_append, List.nil_append]
  rw [wiB_ty]
  refine s_if_neB C 14 11 dX7_type_8 (by decide) rfl (fun z8 => ?_) (fun z8 => ?_)
  · skip
    refine s_aload_n C 15 dX7_type_14 rfl rfl ?_
    refine s_getf C 18 dX7_type_15 rfl f_X7_120 hO rfl ?_
    refine s_bipush C 20 (nI 80) dX7_type_18 rfl (by decide) ?_
    refine s_icmp_neN C 26 23 dX7_type_20 (by decide) rfl (by omega) (by omega) (fun z20 => ?_) (fun z20 => ?_)
    · skip
      have hyes : (tyB a = true ∧ tl < 80) := ⟨z8, by omega⟩
      have hF : mZ TM M M := mZ.rf
      refine s_aload_n C 27 dX7_type_26 rfl rfl ?_
      refine s_getf C 30 dX7_type_27 rfl f_X7_16 hO rfl ?_
      refine s_aload_n C 31 dX7_type_30 rfl rfl ?_
      refine s_getf C 34 dX7_type_31 rfl f_X7_120 hO rfl ?_
      refine s_iload_n C 35 dX7_type_34 rfl rfl ?_
      refine s_iastU C 36 dX7_type_35 rfl hX (by first | decide | omega) (by omega) (by omega) (fun M2 U3 => ?_)
      have hO := U3.o hX hO (by first | decide | omega)
      have hS := U3.o hX hS (by first | decide | omega)
      have hSo := U3.o hX hSo (by first | decide | omega)
      have hSn := U3.o hX hSn (by first | decide | omega)
      have hH := U3.o hX hH (by first | decide | omega)
      have hQ := U3.o hX hQ (by first | decide | omega)
      have hK := U3.o hX hK (by first | decide | omega)
      have hP := U3.o hX hP (by first | decide | omega)
      have hZ := U3.o hX hZ (by first | decide | omega)
      have hW := U3.o hX hW (by first | decide | omega)
      have hU := U3.o hX hU (by first | decide | omega)
      have hF := hF.put U3 hX (by first | decide | (simp; done) | (simp; omega) | (simp [*]; done))
      have hX := U3.s
      refine s_aload_n C 37 dX7_type_36 rfl rfl ?_
      refine s_dup C 38 dX7_type_37 rfl rfl ?_
      refine s_getf C 41 dX7_type_38 rfl f_X7_120 hO rfl ?_
      refine s_iconst C 42 (nI 1) dX7_type_41 rfl (by decide) ?_
      refine s_iaddN C 43 dX7_type_42 rfl ?_
      refine s_putU C 46 dX7_type_43 rfl p_X7_120 hO (by first | decide | omega) rfl rfl rfl (fs' := [.ref sa, .ref ha, .int (nI c), .ref xa, .int (nI (tl + 1)), .ref ra, .ref la, .ref qa, .int (nI al), .ref ka, .int (nI rm), .ref pa, .int fs, .int fe, .ref za, .ref wa, .ref ua, .int (nI ap), .int cm, .int (nI nu), .int (nI be), .int (nI en)]) rfl (fun M4 U5 => ?_)
      have hS := U5.o hO hS (by first | decide | omega)
      have hX := U5.o hO hX (by first | decide | omega)
      have hSo := U5.o hO hSo (by first | decide | omega)
      have hSn := U5.o hO hSn (by first | decide | omega)
      have hH := U5.o hO hH (by first | decide | omega)
      have hQ := U5.o hO hQ (by first | decide | omega)
      have hK := U5.o hO hK (by first | decide | omega)
      have hP := U5.o hO hP (by first | decide | omega)
      have hZ := U5.o hO hZ (by first | decide | omega)
      have hW := U5.o hO hW (by first | decide | omega)
      have hU := U5.o hO hU (by first | decide | omega)
      have hF := hF.put U5 hO (by first | decide | (simp; done) | (simp; omega) | (simp [*]; done))
      have hO := U5.s
      refine s_aload_n C 47 dX7_type_46 rfl rfl ?_
      refine s_getf C 50 dX7_type_47 rfl f_X7_120 hO rfl ?_
      exact s_iret C dX7_type_50 Tr rfl ⟨by rw [if_pos z8, if_pos (by omega)], by rw [if_pos hyes, if_pos hyes]; exact ⟨_, _, _, _, _, _, _, _, _, _, _, _, _, _, _, _, _, _, _, _, _, _, _, _, _, _, _, _, _, _, _, hO, hS, hx8, hH, hHr, hc6, hX, (fun k hk => by by_cases e : k = tl; (· rw [e, pk_us, pk_us]); rw [pk_un e, pk_un e]; exact hXg k (by omega)), (by omega), hSo, hSn, hQ, hK, hP, hZ, hW, hU, hok⟩, hF⟩
    · skip
      have hno : ¬ (tyB a = true ∧ tl < 80) := fun w => by have w1 := w.2; omega
      refine s_bipush C 25 (-4) dX7_type_23 rfl (by decide) ?_
      exact s_iret C dX7_type_25 Tr rfl ⟨by rw [if_pos z8, if_neg (by omega)], by rw [if_neg hno, if_neg hno]; exact ⟨_, _, _, _, _, _, _, _, _, _, _, _, _, _, _, _, _, _, _, _, _, _, _, _, _, _, _, _, _, _, _, hO, hS, hx8, hH, hHr, hc6, hX, hXg, htl, hSo, hSn, hQ, hK, hP, hZ, hW, hU, hok⟩, mZ.rf⟩
  · skip
    have hno : ¬ (tyB a = true ∧ tl < 80) := fun w => by have w1 := w.1; rw [z8] at w1; cases w1
    refine s_bipush C 13 (-2) dX7_type_11 rfl (by decide) ?_
    exact s_iret C dX7_type_13 Tr rfl ⟨by rw [if_neg (by rw [z8]; decide)], by rw [if_neg hno, if_neg hno]; exact ⟨_, _, _, _, _, _, _, _, _, _, _, _, _, _, _, _, _, _, _, _, _, _, _, _, _, _, _, _, _, _, _, hO, hS, hx8, hH, hHr, hc6, hX, hXg, htl, hSo, hSn, hQ, hK, hP, hZ, hW, hU, hok⟩, mZ.rf⟩

set_option maxRecDepth 100000 in
set_option maxHeartbeats 4000000 in
theorem nn_clearText {G : mG} {M : mM} {m T mo od ql c tl : Nat} {q : Nat → Int32} {ln : Nat → Nat} {fl : Nat → Nat → Int32} {us : Nat → Int32} {hs : Nat → mSt} {g : Nat → Int32} (hn : nR M m (T, mo, od, ql, q, ln, fl, us) c hs tl g)  : CC G iX7_clearText 0 0 [.ref m] M (fun r M1 => r = some (.int (nI tl)) ∧ nR M1 m (T, mo, od, ql, q, ln, fl, us) c hs 0 g ∧ mZ TM M M1) := by
  refine CC.of rfl (Nat.le_of_ble_eq_true rfl) rfl (fun X C Tr => ?_)
  show V X 0 0 0 [some (.ref m), none] [] M
  obtain ⟨sa, ha, xa, ra, la, qa, al, ka, rm, pa, fs, fe, za, wa, ua, ap, cm, nu, be, en, S, H, xt, so, sn, Q, K, P, Z, W, U, hO, hS, hx, hH, hHr, hc6, hX, hXg, htl, hSo, hSn, hQ, hK, hP, hZ, hW, hU, hok⟩ := hn.get
  have hx8 := hx
  obtain ⟨hx0, hx1, hx2, hx3, hxq, hxt⟩ := hx
  have hT16 := hok.T16
  have hm4 := hok.m4
  have ho3 := hok.o3
  have hq24 := hok.q24
  have hF : mZ TM M M := mZ.rf
  refine s_aload_n C 1 dX7_clearText_0 rfl rfl ?_
  refine s_getf C 4 dX7_clearText_1 rfl f_X7_120 hO rfl ?_
  refine s_istore_n C 5 dX7_clearText_4 rfl rfl rfl ?_
  dsimp only [List.set]
  refine s_aload_n C 6 dX7_clearText_5 rfl rfl ?_
  refine s_iconst C 7 (nI 0) dX7_clearText_6 rfl (by decide) ?_
  refine s_putU C 10 dX7_clearText_7 rfl p_X7_120 hO (by first | decide | omega) rfl rfl rfl (fs' := [.ref sa, .ref ha, .int (nI c), .ref xa, .int (nI 0), .ref ra, .ref la, .ref qa, .int (nI al), .ref ka, .int (nI rm), .ref pa, .int fs, .int fe, .ref za, .ref wa, .ref ua, .int (nI ap), .int cm, .int (nI nu), .int (nI be), .int (nI en)]) rfl (fun M1 U2 => ?_)
  have hS := U2.o hO hS (by first | decide | omega)
  have hX := U2.o hO hX (by first | decide | omega)
  have hSo := U2.o hO hSo (by first | decide | omega)
  have hSn := U2.o hO hSn (by first | decide | omega)
  have hH := U2.o hO hH (by first | decide | omega)
  have hQ := U2.o hO hQ (by first | decide | omega)
  have hK := U2.o hO hK (by first | decide | omega)
  have hP := U2.o hO hP (by first | decide | omega)
  have hZ := U2.o hO hZ (by first | decide | omega)
  have hW := U2.o hO hW (by first | decide | omega)
  have hU := U2.o hO hU (by first | decide | omega)
  have hF := hF.put U2 hO (by first | decide | (simp; done) | (simp; omega) | (simp [*]; done))
  have hO := U2.s
  refine s_iload_n C 11 dX7_clearText_10 rfl rfl ?_
  exact s_iret C dX7_clearText_11 Tr rfl ⟨rfl, ⟨_, _, _, _, _, _, _, _, _, _, _, _, _, _, _, _, _, _, _, _, _, _, _, _, _, _, _, _, _, _, _, hO, hS, hx8, hH, hHr, hc6, hX, (fun k hk => absurd hk (Nat.not_lt_zero _)), (Nat.zero_le _), hSo, hSn, hQ, hK, hP, hZ, hW, hU, hok⟩, hF⟩

set_option maxRecDepth 100000 in
set_option maxHeartbeats 4000000 in
theorem nn_syntaxError {G : mG} {M : mM} {m T mo od ql c tl : Nat} {q : Nat → Int32} {ln : Nat → Nat} {fl : Nat → Nat → Int32} {us : Nat → Int32} {hs : Nat → mSt} {g : Nat → Int32} (hn : nR M m (T, mo, od, ql, q, ln, fl, us) c hs tl g)  : CC G iX7_syntaxError 0 0 [.ref m] M (fun r M1 => r = some (.int (oI (ffO g tl 81 0))) ∧ nR M1 m (T, mo, od, ql, q, ln, fl, us) c hs tl g ∧ mZ TM M M1) := by
  refine CC.of rfl (Nat.le_of_ble_eq_true rfl) rfl (fun X C Tr => ?_)
  show V X 0 0 0 [some (.ref m)] [] M
  obtain ⟨sa, ha, xa, ra, la, qa, al, ka, rm, pa, fs, fe, za, wa, ua, ap, cm, nu, be, en, S, H, xt, so, sn, Q, K, P, Z, W, U, hO, hS, hx, hH, hHr, hc6, hX, hXg, htl, hSo, hSn, hQ, hK, hP, hZ, hW, hU, hok⟩ := hn.get
  have hx8 := hx
  obtain ⟨hx0, hx1, hx2, hx3, hxq, hxt⟩ := hx
  have hT16 := hok.T16
  have hm4 := hok.m4
  have ho3 := hok.o3
  have hq24 := hok.q24
  refine s_aload_n C 1 dX7_syntaxError_0 rfl rfl ?_
  refine s_invV C 4 0 0 [] (mRv_of hO rfl) dX7_syntaxError_1 rfl m_X7_200 (n_findError hO hX hXg htl) rfl rfl rfl ⟨by decide, by decide⟩ (Nat.le_of_ble_eq_true rfl) (by omega) (by omega) ?_
  rintro _ M1 ⟨rfl, hO6, hFe⟩
  dsimp only [Option.toList, List.cons_append, List.nil_append]
  obtain ⟨ap7, cm7, nu7, be7, en7, hO7⟩ := hO6
  have hS := hFe.at hS (by decide)
  have hX := hFe.at hX (by decide)
  have hSo := hFe.at hSo (by decide)
  have hSn := hFe.at hSn (by decide)
  have hH := hFe.at hH (by decide)
  have hQ := hFe.at hQ (by decide)
  have hK := hFe.at hK (by decide)
  have hP := hFe.at hP (by decide)
  have hZ := hFe.at hZ (by decide)
  have hW := hFe.at hW (by decide)
  have hU := hFe.at hU (by decide)
  have hO := hO7
  exact s_iret C dX7_syntaxError_4 Tr rfl ⟨rfl, ⟨_, _, _, _, _, _, _, _, _, _, _, _, _, _, _, _, _, _, _, _, _, _, _, _, _, _, _, _, _, _, _, hO, hS, hx8, hH, hHr, hc6, hX, hXg, htl, hSo, hSn, hQ, hK, hP, hZ, hW, hU, hok⟩, (hFe.mono (by decide))⟩

set_option maxRecDepth 100000 in
set_option maxHeartbeats 4000000 in
theorem nn_common {G : mG} {M : mM} {m T mo od ql c tl : Nat} {q : Nat → Int32} {ln : Nat → Nat} {fl : Nat → Nat → Int32} {us : Nat → Int32} {hs : Nat → mSt} {g : Nat → Int32} (hn : nR M m (T, mo, od, ql, q, ln, fl, us) c hs tl g) {a b : Int32} : CC G iX7_common 0 0 [.ref m, .int a, .int b] M (fun r M1 => r = some (.int (if (isIx a T && isIx b T) = true then nI (cmI (fl a.toNatClampNeg) (fl b.toNatClampNeg) (ln a.toNatClampNeg) (ln b.toNatClampNeg) (ln a.toNatClampNeg)) else -1)) ∧ nR M1 m (T, mo, od, ql, q, ln, fl, us) c hs tl g ∧ mZ TM M M1) := by
  refine CC.of rfl (Nat.le_of_ble_eq_true rfl) rfl (fun X C Tr => ?_)
  show V X 0 0 0 [some (.ref m), some (.int a), some (.int b)] [] M
  obtain ⟨sa, ha, xa, ra, la, qa, al, ka, rm, pa, fs, fe, za, wa, ua, ap, cm, nu, be, en, S, H, xt, so, sn, Q, K, P, Z, W, U, hO, hS, hx, hH, hHr, hc6, hX, hXg, htl, hSo, hSn, hQ, hK, hP, hZ, hW, hU, hok⟩ := hn.get
  have hx8 := hx
  obtain ⟨hx0, hx1, hx2, hx3, hxq, hxt⟩ := hx
  have hT16 := hok.T16
  have hm4 := hok.m4
  have ho3 := hok.o3
  have hq24 := hok.q24
  refine s_aload_n C 1 dX7_common_0 rfl rfl ?_
  refine s_iload_n C 2 dX7_common_1 rfl rfl ?_
  refine s_invV C 5 0 0 [] (mRv_of hO rfl) dX7_common_2 rfl m_X7_216 (n_isTitle hO hS hx8 hok (a := a)) rfl rfl rfl ⟨by decide, by decide⟩ (Nat.le_of_ble_eq_true rfl) (by omega) (by omega) ?_
  rintro _ M1 ⟨rfl, rfl⟩
  dsimp only [Option.toList, List.cons_append, List.nil_append]
  refine s_if_eqB C 25 8 dX7_common_5 (by decide) rfl (fun z5 => ?_) (fun z5 => ?_)
  · skip
    have hz9 : (isIx a T && isIx b T) = false := by rw [z5]; rfl
    refine s_iconst C 26 (-1) dX7_common_25 rfl (by decide) ?_
    exact s_iret C dX7_common_26 Tr rfl ⟨by rw [hz9]; rfl, ⟨_, _, _, _, _, _, _, _, _, _, _, _, _, _, _, _, _, _, _, _, _, _, _, _, _, _, _, _, _, _, _, hO, hS, hx8, hH, hHr, hc6, hX, hXg, htl, hSo, hSn, hQ, hK, hP, hZ, hW, hU, hok⟩, mZ.rf⟩
  · skip
    refine s_aload_n C 9 dX7_common_8 rfl rfl ?_
    refine s_iload_n C 10 dX7_common_9 rfl rfl ?_
    refine s_invV C 13 0 0 [] (mRv_of hO rfl) dX7_common_10 rfl m_X7_216 (n_isTitle hO hS hx8 hok (a := b)) rfl rfl rfl ⟨by decide, by decide⟩ (Nat.le_of_ble_eq_true rfl) (by omega) (by omega) ?_
    rintro _ M2 ⟨rfl, rfl⟩
    dsimp only [Option.toList, List.cons_append, List.nil_append]
    refine s_if_eqB C 25 16 dX7_common_13 (by decide) rfl (fun z13 => ?_) (fun z13 => ?_)
    · skip
      have hz9 : (isIx a T && isIx b T) = false := by rw [z13]; exact Bool.and_false _
      refine s_iconst C 26 (-1) dX7_common_25 rfl (by decide) ?_
      exact s_iret C dX7_common_26 Tr rfl ⟨by rw [hz9]; rfl, ⟨_, _, _, _, _, _, _, _, _, _, _, _, _, _, _, _, _, _, _, _, _, _, _, _, _, _, _, _, _, _, _, hO, hS, hx8, hH, hHr, hc6, hX, hXg, htl, hSo, hSn, hQ, hK, hP, hZ, hW, hU, hok⟩, mZ.rf⟩
    · skip
      obtain ⟨t, ht9, hqt⟩ := isIx_of (x := a) (c := T) z5 (by omega)
      subst hqt
      obtain ⟨u, hu9, hqu⟩ := isIx_of (x := b) (c := T) z13 (by omega)
      subst hqu
      refine s_aload_n C 17 dX7_common_16 rfl rfl ?_
      refine s_iload_n C 18 dX7_common_17 rfl rfl ?_
      refine s_iload_n C 19 dX7_common_18 rfl rfl ?_
      refine s_invV C 22 0 0 [] (mRv_of hO rfl) dX7_common_19 rfl m_X7_249 (n_longest hO hS hx8 hok hU ht9 hu9) rfl rfl rfl ⟨by decide, by decide⟩ (Nat.le_of_ble_eq_true rfl) (by omega) (by omega) ?_
      rintro _ M3 ⟨rfl, ⟨U7, hU7⟩, hF7⟩
      dsimp only [Option.toList, List.cons_append, List.nil_append]
      have hO := hF7.at hO (by decide)
      have hS := hF7.at hS (by decide)
      have hX := hF7.at hX (by decide)
      have hSo := hF7.at hSo (by decide)
      have hSn := hF7.at hSn (by decide)
      have hH := hF7.at hH (by decide)
      have hQ := hF7.at hQ (by decide)
      have hK := hF7.at hK (by decide)
      have hP := hF7.at hP (by decide)
      have hZ := hF7.at hZ (by decide)
      have hW := hF7.at hW (by decide)
      have hU := hU7
      refine s_goto C 26 dX7_common_22 (by decide) ?_
      exact s_iret C dX7_common_26 Tr rfl ⟨by rw [nI_clamp (by omega), nI_clamp (by omega), isIx_nI ht9 (by omega), isIx_nI hu9 (by omega)]; rfl, ⟨_, _, _, _, _, _, _, _, _, _, _, _, _, _, _, _, _, _, _, _, _, _, _, _, _, _, _, _, _, _, _, hO, hS, hx8, hH, hHr, hc6, hX, hXg, htl, hSo, hSn, hQ, hK, hP, hZ, hW, hU, hok⟩, (hF7.mono (by decide))⟩

set_option maxRecDepth 100000 in
set_option maxHeartbeats 4000000 in
theorem nn_closest {G : mG} {M : mM} {m T mo od ql c tl : Nat} {q : Nat → Int32} {ln : Nat → Nat} {fl : Nat → Nat → Int32} {us : Nat → Int32} {hs : Nat → mSt} {g : Nat → Int32} (hn : nR M m (T, mo, od, ql, q, ln, fl, us) c hs tl g) {a : Int32} : CC G iX7_closest 0 0 [.ref m, .int a] M (fun r M1 => r = some (.int (if isIx a T = true then oI (clN (fun i => cmI (fl a.toNatClampNeg) (fl i) (ln a.toNatClampNeg) (ln i) (ln a.toNatClampNeg)) a.toNatClampNeg T) else -1)) ∧ nR M1 m (T, mo, od, ql, q, ln, fl, us) c hs tl g ∧ mZ TM M M1) := by
  refine CC.of rfl (Nat.le_of_ble_eq_true rfl) rfl (fun X C Tr => ?_)
  show V X 0 0 0 [some (.ref m), some (.int a), none, none, none, none] [] M
  obtain ⟨sa, ha, xa, ra, la, qa, al, ka, rm, pa, fs, fe, za, wa, ua, ap, cm, nu, be, en, S, H, xt, so, sn, Q, K, P, Z, W, U, hO, hS, hx, hH, hHr, hc6, hX, hXg, htl, hSo, hSn, hQ, hK, hP, hZ, hW, hU, hok⟩ := hn.get
  have hx8 := hx
  obtain ⟨hx0, hx1, hx2, hx3, hxq, hxt⟩ := hx
  have hT16 := hok.T16
  have hm4 := hok.m4
  have ho3 := hok.o3
  have hq24 := hok.q24
  refine s_aload_n C 1 dX7_closest_0 rfl rfl ?_
  refine s_iload_n C 2 dX7_closest_1 rfl rfl ?_
  refine s_invV C 5 0 0 [] (mRv_of hO rfl) dX7_closest_2 rfl m_X7_216 (n_isTitle hO hS hx8 hok (a := a)) rfl rfl rfl ⟨by decide, by decide⟩ (Nat.le_of_ble_eq_true rfl) (by omega) (by omega) ?_
  rintro _ M1 ⟨rfl, rfl⟩
  dsimp only [Option.toList, List.cons_append, List.nil_append]
  refine s_if_neB C 10 8 dX7_closest_5 (by decide) rfl (fun z5 => ?_) (fun z5 => ?_)
  · skip
    obtain ⟨t, ht9, hqt⟩ := isIx_of (x := a) (c := T) z5 (by omega)
    subst hqt
    refine s_bipush C 12 (-6) dX7_closest_10 rfl (by decide) ?_
    refine s_istore_n C 13 dX7_closest_12 rfl rfl rfl ?_
    dsimp only [List.set]
    refine s_iconst C 14 (nI 0) dX7_closest_13 rfl (by decide) ?_
    refine s_istore_n C 15 dX7_closest_14 rfl rfl rfl ?_
    dsimp only [List.set]
    refine s_iconst C 16 (nI 0) dX7_closest_15 rfl (by decide) ?_
    refine s_istore C 18 dX7_closest_16 rfl rfl rfl ?_
    dsimp only [List.set]
    have hF : mZ TM M M := mZ.rf
    suffices lp18 : ∀ (fu18 : Nat) (i w : Nat) (U9 : Nat → Int32) (M9 : mM), T - i < fu18 → i ≤ T → (match clN (fun i => cmI (fl t) (fl i) (ln t) (ln i) (ln t)) t i with | none => w = 0 | some b => b < i ∧ w = (fun i => cmI (fl t) (fl i) (ln t) (ln i) (ln t)) b) → w ≤ 24 → M9 m = some (300, .inl (8, [.ref sa, .ref ha, .int (nI c), .ref xa, .int (nI tl), .ref ra, .ref la, .ref qa, .int (nI al), .ref ka, .int (nI rm), .ref pa, .int fs, .int fe, .ref za, .ref wa, .ref ua, .int (nI ap), .int cm, .int (nI nu), .int (nI be), .int (nI en)])) → M9 sa = some (301, .inr (0, 444, .inl S)) → M9 xa = some (303, .inr (0, 80, .inl xt)) → M9 ra = some (304, .inr (0, 384, .inl so)) → M9 la = some (305, .inr (0, 16, .inl sn)) → M9 ha = some (302, .inr (0, 2664, .inl H)) → M9 qa = some (306, .inr (0, 24, .inl Q)) → M9 ka = some (307, .inr (0, 16, .inl K)) → M9 pa = some (308, .inr (0, 16, .inl P)) → M9 za = some (309, .inr (0, 16, .inl Z)) → M9 wa = some (310, .inr (0, 16, .inl W)) → M9 ua = some (311, .inr (0, 25, .inl U9)) → mZ TM M M9 → V X 0 0 18 [some (.ref m), some (.int (nI t)), some (.int (oI (clN (fun i => cmI (fl t) (fl i) (ln t) (ln i) (ln t)) t i))), some (.int (nI w)), some (.int (nI i)), none] [] M9 from lp18 (T + 1) 0 0 _ _ (by omega) (by omega) rfl (by omega) hO hS hX hSo hSn hH hQ hK hP hZ hW hU hF
    intro fu18
    induction fu18 with
    | zero => intro i w U9 M9 hi0 hi hw hw24 hO hS hX hSo hSn hH hQ hK hP hZ hW hU hF; omega
    | succ fu18 ih18 =>
      intro i w U9 M9 hi0 hi hw hw24 hO hS hX hSo hSn hH hQ hK hP hZ hW hU hF
      refine s_iload C 20 dX7_closest_18 rfl rfl ?_
      refine s_aload_n C 21 dX7_closest_20 rfl rfl ?_
      refine s_getf C 24 dX7_closest_21 rfl f_X7_7 hO rfl ?_
      refine s_iconst C 25 (nI 0) dX7_closest_24 rfl (by decide) ?_
      refine s_iald C 26 dX7_closest_25 rfl hS (by omega) (by omega) ?_
      rw [hx0]
      refine s_icmp_geN C 78 29 dX7_closest_26 (by decide) rfl (by omega) (by omega) (fun z26 => ?_) (fun z26 => ?_)
      · skip
        have hie : i = T := by omega
        refine s_iload_n C 79 dX7_closest_78 rfl rfl ?_
        exact s_iret C dX7_closest_79 Tr rfl ⟨by rw [nI_clamp (by omega), isIx_nI ht9 (by omega), hie]; rfl, ⟨_, _, _, _, _, _, _, _, _, _, _, _, _, _, _, _, _, _, _, _, _, _, _, _, _, _, _, _, _, _, _, hO, hS, hx8, hH, hHr, hc6, hX, hXg, htl, hSo, hSn, hQ, hK, hP, hZ, hW, hU, hok⟩, hF⟩
      · skip
        refine s_iload C 31 dX7_closest_29 rfl rfl ?_
        refine s_iload_n C 32 dX7_closest_31 rfl rfl ?_
        refine s_icmp_neN C 39 35 dX7_closest_32 (by decide) rfl (by omega) (by omega) (fun z32 => ?_) (fun z32 => ?_)
        · skip
          refine s_aload_n C 40 dX7_closest_39 rfl rfl ?_
          refine s_iload_n C 41 dX7_closest_40 rfl rfl ?_
          refine s_iload C 43 dX7_closest_41 rfl rfl ?_
          refine s_invV C 46 0 0 [] (mRv_of hO rfl) dX7_closest_43 rfl m_X7_249 (n_longest hO hS hx8 hok hU (t := t) (u := i) ht9 (by omega)) rfl rfl rfl ⟨by decide, by decide⟩ (Nat.le_of_ble_eq_true rfl) (by omega) (by omega) ?_
          rintro _ M2 ⟨rfl, ⟨U7, hU7⟩, hF7⟩
          dsimp only [Option.toList, List.cons_append, List.nil_append]
          have hO := hF7.at hO (by decide)
          have hS := hF7.at hS (by decide)
          have hX := hF7.at hX (by decide)
          have hSo := hF7.at hSo (by decide)
          have hSn := hF7.at hSn (by decide)
          have hH := hF7.at hH (by decide)
          have hQ := hF7.at hQ (by decide)
          have hK := hF7.at hK (by decide)
          have hP := hF7.at hP (by decide)
          have hZ := hF7.at hZ (by decide)
          have hW := hF7.at hW (by decide)
          have hU := hU7
          have hF := hF.tr (hF7.mono (by decide))
          have hr24 : cmI (fl t) (fl i) (ln t) (ln i) (ln t) ≤ 24 := cmI_le _
          refine s_istore C 48 dX7_closest_46 rfl rfl rfl ?_
          dsimp only [List.set]
          refine s_iload C 50 dX7_closest_48 rfl rfl ?_
          refine s_iload_n C 51 dX7_closest_50 rfl rfl ?_
          refine s_icmp_eqN C 72 54 dX7_closest_51 (by decide) rfl (by omega) (by omega) (fun z51 => ?_) (fun z51 => ?_)
          · skip
            exact absurd z51 z32
          · skip
            refine s_iload_n C 55 dX7_closest_54 rfl rfl ?_
            refine s_bipush C 57 (-6) dX7_closest_55 rfl (by decide) ?_
            refine s_icmp_eq C 66 60 dX7_closest_57 (by decide) rfl (fun z57 => ?_) (fun z57 => ?_)
            · skip
              have hcn : clN (fun i => cmI (fl t) (fl i) (ln t) (ln i) (ln t)) t i = none := (oI_n (fun j hj => by rw [hj] at hw; have := hw.1; omega)).mp z57
              have hst : clN (fun i => cmI (fl t) (fl i) (ln t) (ln i) (ln t)) t (i + 1) = some i := by rw [clN, if_neg z32, hcn]
              have hw2 : (match clN (fun i => cmI (fl t) (fl i) (ln t) (ln i) (ln t)) t (i + 1) with | none => cmI (fl t) (fl i) (ln t) (ln i) (ln t) = 0 | some b => b < i + 1 ∧ cmI (fl t) (fl i) (ln t) (ln i) (ln t) = (fun i => cmI (fl t) (fl i) (ln t) (ln i) (ln t)) b) := by rw [hst]; exact ⟨Nat.lt_succ_self i, rfl⟩
              refine s_iload C 68 dX7_closest_66 rfl rfl ?_
              refine s_istore_n C 69 dX7_closest_68 rfl rfl rfl ?_
              dsimp only [List.set]
              refine s_iload C 71 dX7_closest_69 rfl rfl ?_
              refine s_istore_n C 72 dX7_closest_71 rfl rfl rfl ?_
              dsimp only [List.set]
              refine s_iinc C 75 (nI (i + 1)) dX7_closest_72 rfl rfl (by rw [← nI_add]; rfl) rfl ?_
              dsimp only [List.set]
              refine s_goto C 18 dX7_closest_75 (by decide) ?_
              refine V.drop 5 ?_
              dsimp only [List.set]
              rw [show (nI i) = oI (clN (fun i => cmI (fl t) (fl i) (ln t) (ln i) (ln t)) t (i + 1)) by rw [hst]; first | done | rfl]
              exact ih18 (i + 1) _ _ _ (by omega) (by omega) hw2 (by omega) hO hS hX hSo hSn hH hQ hK hP hZ hW hU hF
            · skip
              obtain ⟨b, hcb⟩ : ∃ b, clN (fun i => cmI (fl t) (fl i) (ln t) (ln i) (ln t)) t i = some b := by cases e : clN (fun i => cmI (fl t) (fl i) (ln t) (ln i) (ln t)) t i with | none => exact absurd (by rw [e]; rfl) z57 | some b => exact ⟨b, rfl⟩
              rw [hcb] at hw
              have hwb : b < i ∧ w = (fun i => cmI (fl t) (fl i) (ln t) (ln i) (ln t)) b := hw
              obtain ⟨hwb1, hwb2⟩ := hwb
              have hwb3 : w = cmI (fl t) (fl b) (ln t) (ln b) (ln t) := hwb2
              refine s_iload C 62 dX7_closest_60 rfl rfl ?_
              refine s_iload_n C 63 dX7_closest_62 rfl rfl ?_
              refine s_icmp_leN C 72 66 dX7_closest_63 (by decide) rfl (by omega) (by omega) (fun z63 => ?_) (fun z63 => ?_)
              · skip
                have hst : clN (fun i => cmI (fl t) (fl i) (ln t) (ln i) (ln t)) t (i + 1) = clN (fun i => cmI (fl t) (fl i) (ln t) (ln i) (ln t)) t i := by rw [clN, if_neg z32, hcb]; exact if_neg (by show ¬ cmI (fl t) (fl b) (ln t) (ln b) (ln t) < cmI (fl t) (fl i) (ln t) (ln i) (ln t); omega)
                have hw2 : (match clN (fun i => cmI (fl t) (fl i) (ln t) (ln i) (ln t)) t (i + 1) with | none => w = 0 | some b => b < i + 1 ∧ w = (fun i => cmI (fl t) (fl i) (ln t) (ln i) (ln t)) b) := by rw [hst, hcb]; exact ⟨Nat.lt_succ_of_lt hwb1, hwb2⟩
                refine s_iinc C 75 (nI (i + 1)) dX7_closest_72 rfl rfl (by rw [← nI_add]; rfl) rfl ?_
                dsimp only [List.set]
                refine s_goto C 18 dX7_closest_75 (by decide) ?_
                refine V.drop 5 ?_
                dsimp only [List.set]
                rw [show (oI (clN (fun i => cmI (fl t) (fl i) (ln t) (ln i) (ln t)) t i)) = oI (clN (fun i => cmI (fl t) (fl i) (ln t) (ln i) (ln t)) t (i + 1)) by rw [hst]; first | done | rfl]
                exact ih18 (i + 1) _ _ _ (by omega) (by omega) hw2 (by omega) hO hS hX hSo hSn hH hQ hK hP hZ hW hU hF
              · skip
                have hst : clN (fun i => cmI (fl t) (fl i) (ln t) (ln i) (ln t)) t (i + 1) = some i := by rw [clN, if_neg z32, hcb]; exact if_pos (by show cmI (fl t) (fl b) (ln t) (ln b) (ln t) < cmI (fl t) (fl i) (ln t) (ln i) (ln t); omega)
                have hw2 : (match clN (fun i => cmI (fl t) (fl i) (ln t) (ln i) (ln t)) t (i + 1) with | none => cmI (fl t) (fl i) (ln t) (ln i) (ln t) = 0 | some b => b < i + 1 ∧ cmI (fl t) (fl i) (ln t) (ln i) (ln t) = (fun i => cmI (fl t) (fl i) (ln t) (ln i) (ln t)) b) := by rw [hst]; exact ⟨Nat.lt_succ_self i, rfl⟩
                refine s_iload C 68 dX7_closest_66 rfl rfl ?_
                refine s_istore_n C 69 dX7_closest_68 rfl rfl rfl ?_
                dsimp only [List.set]
                refine s_iload C 71 dX7_closest_69 rfl rfl ?_
                refine s_istore_n C 72 dX7_closest_71 rfl rfl rfl ?_
                dsimp only [List.set]
                refine s_iinc C 75 (nI (i + 1)) dX7_closest_72 rfl rfl (by rw [← nI_add]; rfl) rfl ?_
                dsimp only [List.set]
                refine s_goto C 18 dX7_closest_75 (by decide) ?_
                refine V.drop 5 ?_
                dsimp only [List.set]
                rw [show (nI i) = oI (clN (fun i => cmI (fl t) (fl i) (ln t) (ln i) (ln t)) t (i + 1)) by rw [hst]; first | done | rfl]
                exact ih18 (i + 1) _ _ _ (by omega) (by omega) hw2 (by omega) hO hS hX hSo hSn hH hQ hK hP hZ hW hU hF
        · skip
          have hst : clN (fun i => cmI (fl t) (fl i) (ln t) (ln i) (ln t)) t (i + 1) = clN (fun i => cmI (fl t) (fl i) (ln t) (ln i) (ln t)) t i := by rw [clN, if_pos z32]
          have hw2 : (match clN (fun i => cmI (fl t) (fl i) (ln t) (ln i) (ln t)) t (i + 1) with | none => w = 0 | some b => b < i + 1 ∧ w = (fun i => cmI (fl t) (fl i) (ln t) (ln i) (ln t)) b) := by rw [hst]; cases e : clN (fun i => cmI (fl t) (fl i) (ln t) (ln i) (ln t)) t i with | none => rw [e] at hw; exact hw | some b => rw [e] at hw; exact ⟨Nat.lt_succ_of_lt hw.1, hw.2⟩
          refine s_iconst C 36 (nI 0) dX7_closest_35 rfl (by decide) ?_
          refine s_goto C 46 dX7_closest_36 (by decide) ?_
          refine s_istore C 48 dX7_closest_46 rfl rfl rfl ?_
          dsimp only [List.set]
          refine s_iload C 50 dX7_closest_48 rfl rfl ?_
          refine s_iload_n C 51 dX7_closest_50 rfl rfl ?_
          refine s_icmp_eqN C 72 54 dX7_closest_51 (by decide) rfl (by omega) (by omega) (fun z51 => ?_) (fun z51 => ?_)
          · skip
            refine s_iinc C 75 (nI (i + 1)) dX7_closest_72 rfl rfl (by rw [← nI_add]; rfl) rfl ?_
            dsimp only [List.set]
            refine s_goto C 18 dX7_closest_75 (by decide) ?_
            refine V.drop 5 ?_
            dsimp only [List.set]
            rw [show (oI (clN (fun i => cmI (fl t) (fl i) (ln t) (ln i) (ln t)) t i)) = oI (clN (fun i => cmI (fl t) (fl i) (ln t) (ln i) (ln t)) t (i + 1)) by rw [hst]; first | done | rfl]
            exact ih18 (i + 1) _ _ _ (by omega) (by omega) hw2 (by omega) hO hS hX hSo hSn hH hQ hK hP hZ hW hU hF
          · skip
            exact absurd z32 z51
  · skip
    have hz9 := z5
    refine s_iconst C 9 (-1) dX7_closest_8 rfl (by decide) ?_
    exact s_iret C dX7_closest_9 Tr rfl ⟨by rw [hz9]; rfl, ⟨_, _, _, _, _, _, _, _, _, _, _, _, _, _, _, _, _, _, _, _, _, _, _, _, _, _, _, _, _, _, _, hO, hS, hx8, hH, hHr, hc6, hX, hXg, htl, hSo, hSn, hQ, hK, hP, hZ, hW, hU, hok⟩, mZ.rf⟩

set_option maxRecDepth 100000 in
set_option maxHeartbeats 4000000 in
theorem nn_unknown {G : mG} {M : mM} {m T mo od ql c tl : Nat} {q : Nat → Int32} {ln : Nat → Nat} {fl : Nat → Nat → Int32} {us : Nat → Int32} {hs : Nat → mSt} {g : Nat → Int32} (hn : nR M m (T, mo, od, ql, q, ln, fl, us) c hs tl g)  : CC G iX7_unknown 0 0 [.ref m] M (fun r M1 => r = some (.int (nI (unN T mo ln fl T))) ∧ nR M1 m (T, mo, od, ql, q, ln, fl, us) c hs tl g ∧ mZ TM M M1) := by
  refine CC.of rfl (Nat.le_of_ble_eq_true rfl) rfl (fun X C Tr => ?_)
  show V X 0 0 0 [some (.ref m)] [] M
  obtain ⟨sa, ha, xa, ra, la, qa, al, ka, rm, pa, fs, fe, za, wa, ua, ap, cm, nu, be, en, S, H, xt, so, sn, Q, K, P, Z, W, U, hO, hS, hx, hH, hHr, hc6, hX, hXg, htl, hSo, hSn, hQ, hK, hP, hZ, hW, hU, hok⟩ := hn.get
  have hx8 := hx
  obtain ⟨hx0, hx1, hx2, hx3, hxq, hxt⟩ := hx
  have hT16 := hok.T16
  have hm4 := hok.m4
  have ho3 := hok.o3
  have hq24 := hok.q24
  refine s_aload_n C 1 dX7_unknown_0 rfl rfl ?_
  refine s_invV C 4 0 0 [] (mRv_of hO rfl) dX7_unknown_1 rfl m_X7_252 (n_findKeys hO hS hx8 hok hSo hSn hQ hP hZ hW) rfl rfl rfl ⟨by decide, by decide⟩ (Nat.le_of_ble_eq_true rfl) (by omega) (by omega) ?_
  rintro _ M1 ⟨rfl, hO6, ⟨so7, sn7, hSo7, hSn7, hsr⟩, ⟨Q7, hQ7⟩, ⟨P7, hP7⟩, ⟨Z7, W7, hZ7, hW7, hZW⟩, hFk⟩
  dsimp only [Option.toList, List.cons_append, List.nil_append]
  obtain ⟨al7, fs7, fe7, hO7⟩ := hO6
  have hS := hFk.at hS (by decide)
  have hX := hFk.at hX (by decide)
  have hH := hFk.at hH (by decide)
  have hK := hFk.at hK (by decide)
  have hU := hFk.at hU (by decide)
  have hO := hO7
  have hSo := hSo7
  have hSn := hSn7
  have hQ := hQ7
  have hP := hP7
  have hZ := hZ7
  have hW := hW7
  have hWk := fun u hu => (hZW u hu).2
  refine s_aload_n C 5 dX7_unknown_4 rfl rfl ?_
  refine s_invV C 8 0 0 [] (mRv_of hO rfl) dX7_unknown_5 rfl m_X7_255 (n_unknownNow hO hS hx8 hok hW hWk) rfl rfl rfl ⟨by decide, by decide⟩ (Nat.le_of_ble_eq_true rfl) (by omega) (by omega) ?_
  rintro _ M2 ⟨rfl, rfl⟩
  dsimp only [Option.toList, List.cons_append, List.nil_append]
  exact s_iret C dX7_unknown_8 Tr rfl ⟨rfl, ⟨_, _, _, _, _, _, _, _, _, _, _, _, _, _, _, _, _, _, _, _, _, _, _, _, _, _, _, _, _, _, _, hO, hS, hx8, hH, hHr, hc6, hX, hXg, htl, hSo, hSn, hQ, hK, hP, hZ, hW, hU, hok⟩, (hFk.mono (by decide))⟩

set_option maxRecDepth 100000 in
set_option maxHeartbeats 4000000 in
theorem nn_hardest {G : mG} {M : mM} {m T mo od ql c tl : Nat} {q : Nat → Int32} {ln : Nat → Nat} {fl : Nat → Nat → Int32} {us : Nat → Int32} {hs : Nat → mSt} {g : Nat → Int32} (hn : nR M m (T, mo, od, ql, q, ln, fl, us) c hs tl g)  : CC G iX7_hardest 0 0 [.ref m] M (fun r M1 => r = some (.int (oI (hdN T mo ln fl T).2)) ∧ nR M1 m (T, mo, od, ql, q, ln, fl, us) c hs tl g ∧ mZ TM M M1) := by
  refine CC.of rfl (Nat.le_of_ble_eq_true rfl) rfl (fun X C Tr => ?_)
  show V X 0 0 0 [some (.ref m)] [] M
  obtain ⟨sa, ha, xa, ra, la, qa, al, ka, rm, pa, fs, fe, za, wa, ua, ap, cm, nu, be, en, S, H, xt, so, sn, Q, K, P, Z, W, U, hO, hS, hx, hH, hHr, hc6, hX, hXg, htl, hSo, hSn, hQ, hK, hP, hZ, hW, hU, hok⟩ := hn.get
  have hx8 := hx
  obtain ⟨hx0, hx1, hx2, hx3, hxq, hxt⟩ := hx
  have hT16 := hok.T16
  have hm4 := hok.m4
  have ho3 := hok.o3
  have hq24 := hok.q24
  refine s_aload_n C 1 dX7_hardest_0 rfl rfl ?_
  refine s_invV C 4 0 0 [] (mRv_of hO rfl) dX7_hardest_1 rfl m_X7_252 (n_findKeys hO hS hx8 hok hSo hSn hQ hP hZ hW) rfl rfl rfl ⟨by decide, by decide⟩ (Nat.le_of_ble_eq_true rfl) (by omega) (by omega) ?_
  rintro _ M1 ⟨rfl, hO6, ⟨so7, sn7, hSo7, hSn7, hsr⟩, ⟨Q7, hQ7⟩, ⟨P7, hP7⟩, ⟨Z7, W7, hZ7, hW7, hZW⟩, hFk⟩
  dsimp only [Option.toList, List.cons_append, List.nil_append]
  obtain ⟨al7, fs7, fe7, hO7⟩ := hO6
  have hS := hFk.at hS (by decide)
  have hX := hFk.at hX (by decide)
  have hH := hFk.at hH (by decide)
  have hK := hFk.at hK (by decide)
  have hU := hFk.at hU (by decide)
  have hO := hO7
  have hSo := hSo7
  have hSn := hSn7
  have hQ := hQ7
  have hP := hP7
  have hZ := hZ7
  have hW := hW7
  have hWk := fun u hu => (hZW u hu).2
  refine s_aload_n C 5 dX7_hardest_4 rfl rfl ?_
  refine s_invV C 8 0 0 [] (mRv_of hO rfl) dX7_hardest_5 rfl m_X7_258 (n_hardestNow hO hS hx8 hok hW hWk) rfl rfl rfl ⟨by decide, by decide⟩ (Nat.le_of_ble_eq_true rfl) (by omega) (by omega) ?_
  rintro _ M2 ⟨rfl, rfl⟩
  dsimp only [Option.toList, List.cons_append, List.nil_append]
  exact s_iret C dX7_hardest_8 Tr rfl ⟨rfl, ⟨_, _, _, _, _, _, _, _, _, _, _, _, _, _, _, _, _, _, _, _, _, _, _, _, _, _, _, _, _, _, _, hO, hS, hx8, hH, hHr, hc6, hX, hXg, htl, hSo, hSn, hQ, hK, hP, hZ, hW, hU, hok⟩, (hFk.mono (by decide))⟩

set_option maxRecDepth 100000 in
set_option maxHeartbeats 4000000 in
theorem nn_setMode {G : mG} {M : mM} {m T mo od ql c tl : Nat} {q : Nat → Int32} {ln : Nat → Nat} {fl : Nat → Nat → Int32} {us : Nat → Int32} {hs : Nat → mSt} {g : Nat → Int32} (hn : nR M m (T, mo, od, ql, q, ln, fl, us) c hs tl g) {a : Int32} : CC G iX7_setMode 0 0 [.ref m, .int a] M (fun r M1 => r = some (.int (if (isIx a 4 = true) then nI mo else -2)) ∧ nR M1 m (if (isIx a 4 = true) then (T, a.toNatClampNeg, od, ql, q, ln, fl, us) else (T, mo, od, ql, q, ln, fl, us)) (if (isIx a 4 = true) then (min (c + 1) 6) else c) (if (isIx a 4 = true) then (hPush (T, mo, od, ql, q, ln, fl, us) hs) else hs) tl g ∧ mZ TM M M1) := by
  refine CC.of rfl (Nat.le_of_ble_eq_true rfl) rfl (fun X C Tr => ?_)
  show V X 0 0 0 [some (.ref m), some (.int a), none] [] M
  obtain ⟨sa, ha, xa, ra, la, qa, al, ka, rm, pa, fs, fe, za, wa, ua, ap, cm, nu, be, en, S, H, xt, so, sn, Q, K, P, Z, W, U, hO, hS, hx, hH, hHr, hc6, hX, hXg, htl, hSo, hSn, hQ, hK, hP, hZ, hW, hU, hok⟩ := hn.get
  have hx8 := hx
  obtain ⟨hx0, hx1, hx2, hx3, hxq, hxt⟩ := hx
  have hT16 := hok.T16
  have hm4 := hok.m4
  have ho3 := hok.o3
  have hq24 := hok.q24
  refine s_iload_n C 1 dX7_setMode_0 rfl rfl ?_
  refine s_iconst C 2 (nI 0) dX7_setMode_1 rfl (by decide) ?_
  refine s_iconst C 3 (nI 3) dX7_setMode_2 rfl (by decide) ?_
  refine s_invS C 6 0 0 [] dX7_setMode_3 rfl m_X7_47 (n_within) rfl rfl rfl ⟨by decide, by decide⟩ (Nat.le_of_ble_eq_true rfl) (by omega) (by omega) ?_
  rintro _ M1 ⟨rfl, rfl⟩
  dsimp only [Option.toList, List.cons_append, List.nil_append]
  rw [wiB_k (k := 3) (by omega)]
  refine s_if_neB C 12 9 dX7_setMode_6 (by decide) rfl (fun z6 => ?_) (fun z6 => ?_)
  · skip
    obtain ⟨j, hj9, hqj⟩ := isIx_of (x := a) (c := 4) z6 (by omega)
    subst hqj
    refine s_aload_n C 13 dX7_setMode_12 rfl rfl ?_
    refine s_invV C 16 0 0 [] (mRv_of hO rfl) dX7_setMode_13 rfl m_X7_231 (n_record hO hS hx8 hok hH hHr hc6) rfl rfl rfl ⟨by decide, by decide⟩ (Nat.le_of_ble_eq_true rfl) (by omega) (by omega) ?_
    rintro _ M2 ⟨rfl, hO5, ⟨H5, hH5, hHr5⟩, hFr⟩
    dsimp only [Option.toList, List.cons_append, List.nil_append]
    have hS := hFr.at hS (by decide)
    have hX := hFr.at hX (by decide)
    have hSo := hFr.at hSo (by decide)
    have hSn := hFr.at hSn (by decide)
    have hQ := hFr.at hQ (by decide)
    have hK := hFr.at hK (by decide)
    have hP := hFr.at hP (by decide)
    have hZ := hFr.at hZ (by decide)
    have hW := hFr.at hW (by decide)
    have hU := hFr.at hU (by decide)
    have hO := hO5
    have hH := hH5
    have hF : mZ TM M M2 := (hFr.mono (by decide))
    have hHr := hHr5
    have hc6 : min (c + 1) 6 ≤ 6 := by omega
    refine s_aload_n C 17 dX7_setMode_16 rfl rfl ?_
    refine s_getf C 20 dX7_setMode_17 rfl f_X7_7 hO rfl ?_
    refine s_iconst C 21 (nI 1) dX7_setMode_20 rfl (by decide) ?_
    refine s_iald C 22 dX7_setMode_21 rfl hS (by omega) (by omega) ?_
    rw [hx1]
    refine s_istore_n C 23 dX7_setMode_22 rfl rfl rfl ?_
    dsimp only [List.set]
    refine s_aload_n C 24 dX7_setMode_23 rfl rfl ?_
    refine s_getf C 27 dX7_setMode_24 rfl f_X7_7 hO rfl ?_
    refine s_iconst C 28 (nI 1) dX7_setMode_27 rfl (by decide) ?_
    refine s_iload_n C 29 dX7_setMode_28 rfl rfl ?_
    refine s_iastU C 30 dX7_setMode_29 rfl hS (by first | decide | omega) (by omega) (by omega) (fun M3 U4 => ?_)
    have hO := U4.o hS hO (by first | decide | omega)
    have hX := U4.o hS hX (by first | decide | omega)
    have hSo := U4.o hS hSo (by first | decide | omega)
    have hSn := U4.o hS hSn (by first | decide | omega)
    have hH := U4.o hS hH (by first | decide | omega)
    have hQ := U4.o hS hQ (by first | decide | omega)
    have hK := U4.o hS hK (by first | decide | omega)
    have hP := U4.o hS hP (by first | decide | omega)
    have hZ := U4.o hS hZ (by first | decide | omega)
    have hW := U4.o hS hW (by first | decide | omega)
    have hU := U4.o hS hU (by first | decide | omega)
    have hF := hF.put U4 hS (by first | decide | (simp; done) | (simp; omega) | (simp [*]; done))
    have hS := U4.s
    refine s_iload_n C 31 dX7_setMode_30 rfl rfl ?_
    exact s_iret C dX7_setMode_31 Tr rfl ⟨by rw [isIx_nI hj9 (by omega)]; rfl, by rw [isIx_nI hj9 (by omega), if_pos rfl, if_pos rfl, if_pos rfl, nI_clamp (by omega)]; exact ⟨_, _, _, _, _, _, _, _, _, _, _, _, _, _, _, _, _, _, _, _, _, _, _, _, _, _, _, _, _, _, _, hO, hS, (SR_mo hx8), hH, hHr, hc6, hX, hXg, htl, hSo, hSn, hQ, hK, hP, hZ, hW, hU, (okX_mo hok hj9)⟩, hF⟩
  · skip
    have hz9 := z6
    refine s_bipush C 11 (-2) dX7_setMode_9 rfl (by decide) ?_
    exact s_iret C dX7_setMode_11 Tr rfl ⟨by rw [hz9]; rfl, by rw [hz9]; exact ⟨_, _, _, _, _, _, _, _, _, _, _, _, _, _, _, _, _, _, _, _, _, _, _, _, _, _, _, _, _, _, _, hO, hS, hx8, hH, hHr, hc6, hX, hXg, htl, hSo, hSn, hQ, hK, hP, hZ, hW, hU, hok⟩, mZ.rf⟩

set_option maxRecDepth 100000 in
set_option maxHeartbeats 4000000 in
theorem nn_setOrder {G : mG} {M : mM} {m T mo od ql c tl : Nat} {q : Nat → Int32} {ln : Nat → Nat} {fl : Nat → Nat → Int32} {us : Nat → Int32} {hs : Nat → mSt} {g : Nat → Int32} (hn : nR M m (T, mo, od, ql, q, ln, fl, us) c hs tl g) {a : Int32} : CC G iX7_setOrder 0 0 [.ref m, .int a] M (fun r M1 => r = some (.int (if (isIx a 3 = true) then nI od else -2)) ∧ nR M1 m (if (isIx a 3 = true) then (T, mo, a.toNatClampNeg, ql, q, ln, fl, us) else (T, mo, od, ql, q, ln, fl, us)) (if (isIx a 3 = true) then (min (c + 1) 6) else c) (if (isIx a 3 = true) then (hPush (T, mo, od, ql, q, ln, fl, us) hs) else hs) tl g ∧ mZ TM M M1) := by
  refine CC.of rfl (Nat.le_of_ble_eq_true rfl) rfl (fun X C Tr => ?_)
  show V X 0 0 0 [some (.ref m), some (.int a), none] [] M
  obtain ⟨sa, ha, xa, ra, la, qa, al, ka, rm, pa, fs, fe, za, wa, ua, ap, cm, nu, be, en, S, H, xt, so, sn, Q, K, P, Z, W, U, hO, hS, hx, hH, hHr, hc6, hX, hXg, htl, hSo, hSn, hQ, hK, hP, hZ, hW, hU, hok⟩ := hn.get
  have hx8 := hx
  obtain ⟨hx0, hx1, hx2, hx3, hxq, hxt⟩ := hx
  have hT16 := hok.T16
  have hm4 := hok.m4
  have ho3 := hok.o3
  have hq24 := hok.q24
  refine s_iload_n C 1 dX7_setOrder_0 rfl rfl ?_
  refine s_iconst C 2 (nI 0) dX7_setOrder_1 rfl (by decide) ?_
  refine s_iconst C 3 (nI 2) dX7_setOrder_2 rfl (by decide) ?_
  refine s_invS C 6 0 0 [] dX7_setOrder_3 rfl m_X7_47 (n_within) rfl rfl rfl ⟨by decide, by decide⟩ (Nat.le_of_ble_eq_true rfl) (by omega) (by omega) ?_
  rintro _ M1 ⟨rfl, rfl⟩
  dsimp only [Option.toList, List.cons_append, List.nil_append]
  rw [wiB_k (k := 2) (by omega)]
  refine s_if_neB C 12 9 dX7_setOrder_6 (by decide) rfl (fun z6 => ?_) (fun z6 => ?_)
  · skip
    obtain ⟨j, hj9, hqj⟩ := isIx_of (x := a) (c := 3) z6 (by omega)
    subst hqj
    refine s_aload_n C 13 dX7_setOrder_12 rfl rfl ?_
    refine s_invV C 16 0 0 [] (mRv_of hO rfl) dX7_setOrder_13 rfl m_X7_231 (n_record hO hS hx8 hok hH hHr hc6) rfl rfl rfl ⟨by decide, by decide⟩ (Nat.le_of_ble_eq_true rfl) (by omega) (by omega) ?_
    rintro _ M2 ⟨rfl, hO5, ⟨H5, hH5, hHr5⟩, hFr⟩
    dsimp only [Option.toList, List.cons_append, List.nil_append]
    have hS := hFr.at hS (by decide)
    have hX := hFr.at hX (by decide)
    have hSo := hFr.at hSo (by decide)
    have hSn := hFr.at hSn (by decide)
    have hQ := hFr.at hQ (by decide)
    have hK := hFr.at hK (by decide)
    have hP := hFr.at hP (by decide)
    have hZ := hFr.at hZ (by decide)
    have hW := hFr.at hW (by decide)
    have hU := hFr.at hU (by decide)
    have hO := hO5
    have hH := hH5
    have hF : mZ TM M M2 := (hFr.mono (by decide))
    have hHr := hHr5
    have hc6 : min (c + 1) 6 ≤ 6 := by omega
    refine s_aload_n C 17 dX7_setOrder_16 rfl rfl ?_
    refine s_getf C 20 dX7_setOrder_17 rfl f_X7_7 hO rfl ?_
    refine s_iconst C 21 (nI 2) dX7_setOrder_20 rfl (by decide) ?_
    refine s_iald C 22 dX7_setOrder_21 rfl hS (by omega) (by omega) ?_
    rw [hx2]
    refine s_istore_n C 23 dX7_setOrder_22 rfl rfl rfl ?_
    dsimp only [List.set]
    refine s_aload_n C 24 dX7_setOrder_23 rfl rfl ?_
    refine s_getf C 27 dX7_setOrder_24 rfl f_X7_7 hO rfl ?_
    refine s_iconst C 28 (nI 2) dX7_setOrder_27 rfl (by decide) ?_
    refine s_iload_n C 29 dX7_setOrder_28 rfl rfl ?_
    refine s_iastU C 30 dX7_setOrder_29 rfl hS (by first | decide | omega) (by omega) (by omega) (fun M3 U4 => ?_)
    have hO := U4.o hS hO (by first | decide | omega)
    have hX := U4.o hS hX (by first | decide | omega)
    have hSo := U4.o hS hSo (by first | decide | omega)
    have hSn := U4.o hS hSn (by first | decide | omega)
    have hH := U4.o hS hH (by first | decide | omega)
    have hQ := U4.o hS hQ (by first | decide | omega)
    have hK := U4.o hS hK (by first | decide | omega)
    have hP := U4.o hS hP (by first | decide | omega)
    have hZ := U4.o hS hZ (by first | decide | omega)
    have hW := U4.o hS hW (by first | decide | omega)
    have hU := U4.o hS hU (by first | decide | omega)
    have hF := hF.put U4 hS (by first | decide | (simp; done) | (simp; omega) | (simp [*]; done))
    have hS := U4.s
    refine s_iload_n C 31 dX7_setOrder_30 rfl rfl ?_
    exact s_iret C dX7_setOrder_31 Tr rfl ⟨by rw [isIx_nI hj9 (by omega)]; rfl, by rw [isIx_nI hj9 (by omega), if_pos rfl, if_pos rfl, if_pos rfl, nI_clamp (by omega)]; exact ⟨_, _, _, _, _, _, _, _, _, _, _, _, _, _, _, _, _, _, _, _, _, _, _, _, _, _, _, _, _, _, _, hO, hS, (SR_od hx8), hH, hHr, hc6, hX, hXg, htl, hSo, hSn, hQ, hK, hP, hZ, hW, hU, (okX_od hok hj9)⟩, hF⟩
  · skip
    have hz9 := z6
    refine s_bipush C 11 (-2) dX7_setOrder_9 rfl (by decide) ?_
    exact s_iret C dX7_setOrder_11 Tr rfl ⟨by rw [hz9]; rfl, by rw [hz9]; exact ⟨_, _, _, _, _, _, _, _, _, _, _, _, _, _, _, _, _, _, _, _, _, _, _, _, _, _, _, _, _, _, _, hO, hS, hx8, hH, hHr, hc6, hX, hXg, htl, hSo, hSn, hQ, hK, hP, hZ, hW, hU, hok⟩, mZ.rf⟩
