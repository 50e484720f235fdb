set_option maxRecDepth 20000 in
theorem gc_link : Cond.methodLink RJ7 86 ⟨"java/lang/Object", "getClass", "()Ljava/lang/Class;"⟩ ∈ BIG := bw 358 (by decide +kernel) rfl
set_option maxRecDepth 20000 in
theorem gc_sel : Cond.selects "[Ljava/lang/Object;" ⟨"java/lang/Object", "getClass", "()Ljava/lang/Class;"⟩ ⟨"java/lang/Object", "getClass", "()Ljava/lang/Class;"⟩ ∈ BIG := bw 686 (by decide +kernel) rfl
set_option maxRecDepth 20000 in
theorem gc_inst : Cond.instanceMethod ⟨"java/lang/Object", "getClass", "()Ljava/lang/Class;"⟩ ∈ BIG := bw 359 (by decide +kernel) rfl
set_option maxRecDepth 20000 in
theorem gc_nat : Cond.native ⟨"java/lang/Object", "getClass", "()Ljava/lang/Class;"⟩ ∈ BIG := bw 369 (by decide +kernel) rfl
set_option maxRecDepth 20000 in
theorem ay_link7 : Cond.methodLink RJ7 150 arraycopyName ∈ BIG := bw 379 (by decide +kernel) rfl
set_option maxRecDepth 20000 in
theorem ay_linkL : Cond.methodLink RJx4a65c 112 arraycopyName ∈ BIG := bw 411 (by decide +kernel) rfl
set_option maxRecDepth 20000 in
theorem ay_nat : Cond.native arraycopyName ∈ BIG := bw 381 (by decide +kernel) rfl
set_option maxRecDepth 20000 in
theorem ay_stat : Cond.static arraycopyName ∈ BIG := bw 380 (by decide +kernel) rfl
set_option maxRecDepth 20000 in
theorem ay_ini : Cond.initialized "java/lang/System" ∈ BIG := bw 33 (by decide +kernel) rfl
set_option maxRecDepth 20000 in
theorem dc_link : Cond.fieldLink RJx4a65c 39 "java/util/ArrayList" "DEFAULTCAPACITY_EMPTY_ELEMENTDATA" "[Ljava/lang/Object;" ∈ BIG := bw 60 (by decide +kernel) rfl
set_option maxRecDepth 20000 in
theorem oc_link : Cond.classLink RJ7 110 "[Ljava/lang/Object;" ∈ BIG := bw 373 (by decide +kernel) rfl
set_option maxRecDepth 20000 in
theorem oc_new : Cond.classLink RJ7 2 "java/lang/Object" ∈ BIG := bw 375 (by decide +kernel) rfl
set_option maxRecDepth 20000 in
theorem oc_newL : Cond.classLink RJx4a65c 7 "java/lang/Object" ∈ BIG := bw 383 (by decide +kernel) rfl
set_option maxRecDepth 20000 in
theorem ol_max : Cond.constant RJ8 200 (nI 2147483639) ∈ BIG := bw 351 (by decide +kernel) rfl
/-- a list: its object, its row; n of the row's places are used -/
def lR (G : mG) (M : mM) (tl te a n cap : Nat) (g : Nat → Option Nat) : Prop := ∃ mc e tE, M a = some (tl, .inl (0, [.int mc, .ref e, .int (nI n)])) ∧ M e = some (tE, .inr (2, cap, .inr g)) ∧ (tE = te ∧ 0 < cap ∨ tE = 0 ∧ cap = 0 ∧ e = G.2.2.2.2.2.2.1) ∧ n ≤ cap ∧ cap ≤ 22
theorem lR.at {G : mG} {T : List Nat} {M M1 : mM} {tl te a n cap : Nat} {g : Nat → Option Nat} (hF : mZ T M M1) (h1 : tl ∉ T) (h2 : te ∉ T) (h3 : 0 ∉ T) (h : lR G M tl te a n cap g) : lR G M1 tl te a n cap g := by
  obtain ⟨mc, e, tE, g1, g2, g3, g4, g5⟩ := h
  exact ⟨mc, e, tE, hF.at g1 h1, hF.at g2 (by rcases g3 with ⟨q, -⟩ | ⟨q, -⟩ <;> (rw [q]; assumption)), g3, g4, g5⟩
/-- the row of a list may be another function that agrees on the used places -/
theorem mTit.at {T : List Nat} {M M1 : mM} {f : Nat → Option Nat} {a n : Nat} (hF : mZ T M M1) (h : ∀ i, i < n → ∀ y, f (a + i) = some y → ∃ fs, M y = some (1, .inl (6, fs))) (h1 : 1 ∉ T) : mTit M1 f a n := fun i hi y hy => by
  obtain ⟨fs, h2⟩ := h i hi y hy
  exact ⟨1, fs, hF.at h2 h1⟩
set_option maxRecDepth 100000 in
set_option maxHeartbeats 4000000 in
/-- Preconditions.checkIndex -/
theorem c_chkN {G : mG} {M : mM} {i n : Nat} (hi : i < n) (hn : n < 2 ^ 31) : CC G iJ3_checkIndex_8e157 0 0 [.int (nI i), .int (nI n), .null] M (fun r M1 => r = some (.int (nI i)) ∧ M = M1) := by
  refine CC.of rfl (Nat.le_of_ble_eq_true rfl) rfl (fun X C Tr => ?_)
  show V X 0 0 0 [some (.int (nI i)), some (.int (nI n)), some (.null)] [] M
  refine s_iload_n C 1 dJ3_checkIndex_8e157_0 rfl rfl ?_
  refine s_if_ltN C 4 (t := 9) dJ3_checkIndex_8e157_1 (by decide) rfl (by omega) ?_
  refine s_iload_n C 5 dJ3_checkIndex_8e157_4 rfl rfl ?_
  refine s_iload_n C 6 dJ3_checkIndex_8e157_5 rfl rfl ?_
  refine s_icmp_ltN C 16 9 dJ3_checkIndex_8e157_6 (by decide) rfl (by omega) (by omega) (fun z6 => ?_) (fun z6 => ?_)
  · skip
    refine s_iload_n C 17 dJ3_checkIndex_8e157_16 rfl rfl ?_
    exact s_iret C dJ3_checkIndex_8e157_17 Tr rfl ⟨rfl, rfl⟩
  · skip
    omega

set_option maxRecDepth 100000 in
set_option maxHeartbeats 4000000 in
/-- Preconditions.checkIndex -/
theorem c_chkR {G : mG} {M : mM} {i n x : Nat} (hi : i < n) (hn : n < 2 ^ 31) : CC G iJ3_checkIndex_8e157 0 0 [.int (nI i), .int (nI n), .ref x] M (fun r M1 => r = some (.int (nI i)) ∧ M = M1) := by
  refine CC.of rfl (Nat.le_of_ble_eq_true rfl) rfl (fun X C Tr => ?_)
  show V X 0 0 0 [some (.int (nI i)), some (.int (nI n)), some (.ref x)] [] M
  refine s_iload_n C 1 dJ3_checkIndex_8e157_0 rfl rfl ?_
  refine s_if_ltN C 4 (t := 9) dJ3_checkIndex_8e157_1 (by decide) rfl (by omega) ?_
  refine s_iload_n C 5 dJ3_checkIndex_8e157_4 rfl rfl ?_
  refine s_iload_n C 6 dJ3_checkIndex_8e157_5 rfl rfl ?_
  refine s_icmp_ltN C 16 9 dJ3_checkIndex_8e157_6 (by decide) rfl (by omega) (by omega) (fun z6 => ?_) (fun z6 => ?_)
  · skip
    refine s_iload_n C 17 dJ3_checkIndex_8e157_16 rfl rfl ?_
    exact s_iret C dJ3_checkIndex_8e157_17 Tr rfl ⟨rfl, rfl⟩
  · skip
    omega

set_option maxRecDepth 100000 in
set_option maxHeartbeats 4000000 in
/-- Objects.checkIndex -/
theorem c_chk {G : mG} {M : mM} {i n : Nat} (hi : i < n) (hn : n < 2 ^ 31) : CC G iJ15_checkIndex_7cf53 0 0 [.int (nI i), .int (nI n)] M (fun r M1 => r = some (.int (nI i)) ∧ M = M1) := by
  refine CC.of rfl (Nat.le_of_ble_eq_true rfl) rfl (fun X C Tr => ?_)
  show V X 0 0 0 [some (.int (nI i)), some (.int (nI n))] [] M
  refine s_iload_n C 1 dJ15_checkIndex_7cf53_0 rfl rfl ?_
  refine s_iload_n C 2 dJ15_checkIndex_7cf53_1 rfl rfl ?_
  refine s_null C 3 dJ15_checkIndex_7cf53_2 rfl ?_
  refine s_invS C 6 0 0 [] dJ15_checkIndex_7cf53_3 rfl m_J15_105 (c_chkN hi hn) rfl rfl rfl ⟨by decide, by decide⟩ (Nat.le_of_ble_eq_true rfl) (by omega) (by omega) ?_
  rintro _ M1 ⟨rfl, rfl⟩
  dsimp only [Option.toList, List.cons_append, List.nil_append]
  exact s_iret C dJ15_checkIndex_7cf53_6 Tr rfl ⟨rfl, rfl⟩

set_option maxRecDepth 100000 in
set_option maxHeartbeats 4000000 in
/-- size() -/
theorem c_size {G : mG} {M : mM} {tl te a n cap : Nat} {g : Nat → Option Nat} (h : lR G M tl te a n cap g) : CC G iJx4a65c_size_8abf5 0 0 [.ref a] M (fun r M1 => r = some (.int (nI n)) ∧ M = M1) := by
  refine CC.of rfl (Nat.le_of_ble_eq_true rfl) rfl (fun X C Tr => ?_)
  show V X 0 0 0 [some (.ref a)] [] M
  obtain ⟨mcv, e, tE, hO, hE, hcap, hn, hc22⟩ := h
  refine s_aload_n C 1 dJx4a65c_size_8abf5_0 rfl rfl ?_
  refine s_getf C 4 dJx4a65c_size_8abf5_1 rfl f_Jx4a65c_48 hO rfl ?_
  exact s_iret C dJx4a65c_size_8abf5_4 Tr rfl ⟨rfl, rfl⟩

set_option maxRecDepth 100000 in
set_option maxHeartbeats 4000000 in
/-- elementData(int) -/
theorem c_elem {G : mG} {M : mM} {tl te a n cap : Nat} {g : Nat → Option Nat} {i x : Nat} (h : lR G M tl te a n cap g) (hi : i < n) (hx : g i = some x) : CC G iJx4a65c_elementData_915e3 0 0 [.ref a, .int (nI i)] M (fun r M1 => r = some (.ref x) ∧ M = M1) := by
  refine CC.of rfl (Nat.le_of_ble_eq_true rfl) rfl (fun X C Tr => ?_)
  show V X 0 0 0 [some (.ref a), some (.int (nI i))] [] M
  obtain ⟨mcv, e, tE, hO, hE, hcap, hn, hc22⟩ := h
  refine s_aload_n C 1 dJx4a65c_elementData_915e3_0 rfl rfl ?_
  refine s_getf C 4 dJx4a65c_elementData_915e3_1 rfl f_Jx4a65c_9 hO rfl ?_
  refine s_iload_n C 5 dJx4a65c_elementData_915e3_4 rfl rfl ?_
  refine s_aald C 6 dJx4a65c_elementData_915e3_5 rfl hE (by decide) (by omega) (by omega) ?_
  rw [hx]
  dsimp only [va_rf]
  exact s_aret C dJx4a65c_elementData_915e3_6 Tr rfl (Or.inl ⟨_, rfl⟩) ⟨rfl, rfl⟩

set_option maxRecDepth 100000 in
set_option maxHeartbeats 4000000 in
/-- get(int) -/
theorem c_get {G : mG} {M : mM} {tl te a n cap : Nat} {g : Nat → Option Nat} {i x : Nat} (h : lR G M tl te a n cap g) (hi : i < n) (hx : g i = some x) : CC G iJx4a65c_get_915e3 0 0 [.ref a, .int (nI i)] M (fun r M1 => r = some (.ref x) ∧ M = M1) := by
  refine CC.of rfl (Nat.le_of_ble_eq_true rfl) rfl (fun X C Tr => ?_)
  show V X 0 0 0 [some (.ref a), some (.int (nI i))] [] M
  obtain ⟨mcv, e, tE, hO, hE, hcap, hn, hc22⟩ := h
  refine s_iload_n C 1 dJx4a65c_get_915e3_0 rfl rfl ?_
  refine s_aload_n C 2 dJx4a65c_get_915e3_1 rfl rfl ?_
  refine s_getf C 5 dJx4a65c_get_915e3_2 rfl f_Jx4a65c_48 hO rfl ?_
  refine s_invS C 8 0 0 [] dJx4a65c_get_915e3_5 rfl m_Jx4a65c_118 (c_chk hi (by omega)) rfl rfl rfl ⟨by decide, by decide⟩ (Nat.le_of_ble_eq_true rfl) (by omega) (by omega) ?_
  rintro _ M1 ⟨rfl, rfl⟩
  dsimp only [Option.toList, List.cons_append, List.nil_append]
  refine s_pop C 9 dJx4a65c_get_915e3_8 rfl rfl ?_
  refine s_aload_n C 10 dJx4a65c_get_915e3_9 rfl rfl ?_
  refine s_iload_n C 11 dJx4a65c_get_915e3_10 rfl rfl ?_
  refine s_invV C 14 0 0 [] (mRv_of hO rfl) dJx4a65c_get_915e3_11 rfl m_Jx4a65c_123 (c_elem ⟨mcv, e, tE, hO, hE, hcap, hn, hc22⟩ hi hx) rfl rfl rfl ⟨by decide, by decide⟩ (Nat.le_of_ble_eq_true rfl) (by omega) (by omega) ?_
  rintro _ M2 ⟨rfl, rfl⟩
  dsimp only [Option.toList, List.cons_append, List.nil_append]
  exact s_aret C dJx4a65c_get_915e3_14 Tr rfl (Or.inl ⟨_, rfl⟩) ⟨rfl, rfl⟩

set_option maxRecDepth 100000 in
set_option maxHeartbeats 4000000 in
/-- set -/
theorem c_set {G : mG} {M : mM} {tl te a n cap : Nat} {g : Nat → Option Nat} {i x y ty : Nat} {vs : List Value} (h : lR G M tl te a n cap g) (htl : tl ≠ 0) (hte : te ≠ 0) (htt : tl ≠ te) (hi : i < n) (hx : g i = some x) (hY : M y = some (ty, .inl (6, vs))) (hty : ty ≠ te) : CC G iJx4a65c_set_bcc79 0 0 [.ref a, .int (nI i), .ref y] M (fun r M1 => r = some (.ref x) ∧ lR G M1 tl te a n cap (va_up g i (some y)) ∧ mZ [te] M M1) := by
  refine CC.of rfl (Nat.le_of_ble_eq_true rfl) rfl (fun X C Tr => ?_)
  show V X 0 0 0 [some (.ref a), some (.int (nI i)), some (.ref y), none] [] M
  obtain ⟨mcv, e, tE, hO, hE, hcap, hn, hc22⟩ := h
  have hF : mZ [te] M M := mZ.rf
  have htE : tE = te := by omega
  subst htE
  refine s_iload_n C 1 dJx4a65c_set_bcc79_0 rfl rfl ?_
  refine s_aload_n C 2 dJx4a65c_set_bcc79_1 rfl rfl ?_
  refine s_getf C 5 dJx4a65c_set_bcc79_2 rfl f_Jx4a65c_48 hO rfl ?_
  refine s_invS C 8 0 0 [] dJx4a65c_set_bcc79_5 rfl m_Jx4a65c_118 (c_chk hi (by omega)) rfl rfl rfl ⟨by decide, by decide⟩ (Nat.le_of_ble_eq_true rfl) (by omega) (by omega) ?_
  rintro _ M1 ⟨rfl, rfl⟩
  dsimp only [Option.toList, List.cons_append, List.nil_append]
  refine s_pop C 9 dJx4a65c_set_bcc79_8 rfl rfl ?_
  refine s_aload_n C 10 dJx4a65c_set_bcc79_9 rfl rfl ?_
  refine s_iload_n C 11 dJx4a65c_set_bcc79_10 rfl rfl ?_
  refine s_invV C 14 0 0 [] (mRv_of hO rfl) dJx4a65c_set_bcc79_11 rfl m_Jx4a65c_123 (c_elem ⟨mcv, e, tE, hO, hE, hcap, hn, hc22⟩ hi hx) rfl rfl rfl ⟨by decide, by decide⟩ (Nat.le_of_ble_eq_true rfl) (by omega) (by omega) ?_
  rintro _ M2 ⟨rfl, rfl⟩
  dsimp only [Option.toList, List.cons_append, List.nil_append]
  refine s_astore_n C 15 dJx4a65c_set_bcc79_14 rfl rfl rfl ?_
  dsimp only [List.set]
  refine s_aload_n C 16 dJx4a65c_set_bcc79_15 rfl rfl ?_
  refine s_getf C 19 dJx4a65c_set_bcc79_16 rfl f_Jx4a65c_9 hO rfl ?_
  refine s_iload_n C 20 dJx4a65c_set_bcc79_19 rfl rfl ?_
  refine s_aload_n C 21 dJx4a65c_set_bcc79_20 rfl rfl ?_
  refine s_aastU C 22 dJx4a65c_set_bcc79_21 rfl hE (by first | decide | omega) (Or.inl ⟨rfl, rfl⟩) hY rfl (Or.inl ⟨rfl, rfl⟩) (by omega) (by omega) (fun M3 U4 => ?_)
  have hO := U4.o hE hO (by first | decide | omega)
  have hY := U4.o hE hY (by first | decide | omega)
  have hF := hF.put U4 hE (by first | decide | (simp; done) | (simp; omega) | (simp [*]; done))
  have hE := U4.s
  refine s_aload_n C 23 dJx4a65c_set_bcc79_22 rfl rfl ?_
  exact s_aret C dJx4a65c_set_bcc79_23 Tr rfl (Or.inl ⟨_, rfl⟩) ⟨rfl, ⟨mcv, e, tE, hO, hE, hcap, hn, hc22⟩, hF⟩

set_option maxRecDepth 100000 in
set_option maxHeartbeats 4000000 in
theorem c_acInit {G : mG} {M : mM} {a : Nat} : CC G iJxa1e45_init_da8c8 0 0 [.ref a] M (fun r M1 => r = none ∧ M = M1) := by
  refine CC.of rfl (Nat.le_of_ble_eq_true rfl) rfl (fun X C Tr => ?_)
  show V X 0 0 0 [some (.ref a)] [] M
  refine s_aload_n C 1 dJxa1e45_init_da8c8_0 rfl rfl ?_
  refine s_oi C 4 dJxa1e45_init_da8c8_1 rfl oi_Jxa1e45_1 rfl (by decide) (Nat.le_of_ble_eq_true rfl) ?_
  exact s_vret C dJxa1e45_init_da8c8_4 Tr rfl ⟨rfl, rfl⟩

set_option maxRecDepth 100000 in
set_option maxHeartbeats 4000000 in
theorem c_alInit {G : mG} {M : mM} {a t : Nat} (hO : M a = some (t, .inl (0, [.int 0, .null, .int 0]))) (ht : t ≠ 0) : CC G iJxc12de_init_da8c8 0 0 [.ref a] M (fun r M1 => r = none ∧ mU M a (t, .inl (0, [.int (nI 0), .null, .int 0])) M1) := by
  refine CC.of rfl (Nat.le_of_ble_eq_true rfl) rfl (fun X C Tr => ?_)
  show V X 0 0 0 [some (.ref a)] [] M
  refine s_aload_n C 1 dJxc12de_init_da8c8_0 rfl rfl ?_
  refine s_invI C 4 0 0 [] dJxc12de_init_da8c8_1 rfl m_Jxc12de_1 (c_acInit) rfl rfl rfl ⟨by decide, by decide⟩ (Nat.le_of_ble_eq_true rfl) (by omega) (by omega) ?_
  rintro _ M1 ⟨rfl, rfl⟩
  dsimp only [Option.toList, List.cons_append, List.nil_append]
  refine s_aload_n C 5 dJxc12de_init_da8c8_4 rfl rfl ?_
  refine s_iconst C 6 (nI 0) dJxc12de_init_da8c8_5 rfl (by decide) ?_
  refine s_putU C 9 dJxc12de_init_da8c8_6 rfl p_Jxc12de_7 hO (by first | decide | omega) rfl rfl rfl (fs' := [.int (nI 0), .null, .int 0]) rfl (fun M2 U3 => ?_)
  have hO := U3.s
  exact s_vret C dJxc12de_init_da8c8_9 Tr rfl ⟨rfl, U3⟩

set_option maxRecDepth 100000 in
set_option maxHeartbeats 4000000 in
theorem c_listInit {G : mG} {M : mM} {a t : Nat} (hO : M a = some (t, .inl (0, [.int 0, .null, .int 0]))) (ht : t ≠ 0) : CC G iJx4a65c_init_da8c8 0 0 [.ref a] M (fun r M1 => r = none ∧ mU M a (t, .inl (0, [.int (nI 0), .ref G.2.2.2.2.2.2.1, .int 0])) M1) := by
  refine CC.of rfl (Nat.le_of_ble_eq_true rfl) rfl (fun X C Tr => ?_)
  show V X 0 0 0 [some (.ref a)] [] M
  refine s_aload_n C 1 dJx4a65c_init_da8c8_0 rfl rfl ?_
  refine s_invI C 4 0 0 [] dJx4a65c_init_da8c8_1 rfl m_Jx4a65c_1 (c_alInit hO ht) rfl rfl rfl ⟨by decide, by decide⟩ (Nat.le_of_ble_eq_true rfl) (by omega) (by omega) ?_
  rintro _ M1 ⟨rfl, U9⟩
  dsimp only [Option.toList, List.cons_append, List.nil_append]
  have hO := U9.s
  refine s_aload_n C 5 dJx4a65c_init_da8c8_4 rfl rfl ?_
  refine s_gets C 8 dJx4a65c_init_da8c8_5 rfl (fun s h => h.2.1) dc_link ?_
  refine s_putU C 11 dJx4a65c_init_da8c8_8 rfl p_Jx4a65c_9 hO (by first | decide | omega) rfl rfl rfl (fs' := [.int (nI 0), .ref G.2.2.2.2.2.2.1, .int 0]) rfl (fun M2 U3 => ?_)
  have hO := U3.s
  exact s_vret C dJx4a65c_init_da8c8_11 Tr rfl ⟨rfl, hO, fun b hb => by rw [U3.2 b hb, U9.2 b hb]⟩

set_option maxRecDepth 100000 in
set_option maxHeartbeats 4000000 in
/-- clear() -/
theorem c_clear {G : mG} {M : mM} {tl te a n cap : Nat} {g : Nat → Option Nat} (h : lR G M tl te a n cap g) (htl : tl ≠ 0) (hte : te ≠ 0) (htt : tl ≠ te) : CC G iJx4a65c_clear_da8c8 0 0 [.ref a] M (fun r M1 => r = none ∧ ∃ g2, lR G M1 tl te a 0 cap g2 ∧ mZ [tl, te] M M1) := by
  refine CC.of rfl (Nat.le_of_ble_eq_true rfl) rfl (fun X C Tr => ?_)
  show V X 0 0 0 [some (.ref a), none, none, none] [] M
  obtain ⟨mcv, e, tE, hO, hE, hcap, hn, hc22⟩ := h
  have hF : mZ [tl, te] M M := mZ.rf
  refine s_aload_n C 1 dJx4a65c_clear_da8c8_0 rfl rfl ?_
  refine s_dup C 2 dJx4a65c_clear_da8c8_1 rfl rfl ?_
  refine s_getf C 5 dJx4a65c_clear_da8c8_2 rfl f_Jx4a65c_63 hO rfl ?_
  refine s_iconst C 6 (nI 1) dJx4a65c_clear_da8c8_5 rfl (by decide) ?_
  refine s_iadd C 7 dJx4a65c_clear_da8c8_6 rfl ?_
  refine s_putU C 10 dJx4a65c_clear_da8c8_7 rfl p_Jx4a65c_63 hO (by first | decide | omega) rfl rfl rfl (fs' := [.int (mcv + (nI 1)), .ref e, .int (nI n)]) rfl (fun M1 U2 => ?_)
  have hE := U2.o hO hE (by first | decide | omega)
  have hF := hF.put U2 hO (by first | decide | (simp; done) | (simp; omega) | (simp [*]; done))
  have hO := U2.s
  refine s_aload_n C 11 dJx4a65c_clear_da8c8_10 rfl rfl ?_
  refine s_getf C 14 dJx4a65c_clear_da8c8_11 rfl f_Jx4a65c_9 hO rfl ?_
  refine s_astore_n C 15 dJx4a65c_clear_da8c8_14 rfl rfl rfl ?_
  dsimp only [List.set]
  refine s_aload_n C 16 dJx4a65c_clear_da8c8_15 rfl rfl ?_
  refine s_getf C 19 dJx4a65c_clear_da8c8_16 rfl f_Jx4a65c_48 hO rfl ?_
  refine s_istore_n C 20 dJx4a65c_clear_da8c8_19 rfl rfl rfl ?_
  dsimp only [List.set]
  refine s_aload_n C 21 dJx4a65c_clear_da8c8_20 rfl rfl ?_
  refine s_iconst C 22 (nI 0) dJx4a65c_clear_da8c8_21 rfl (by decide) ?_
  refine s_dup_x1 C 23 dJx4a65c_clear_da8c8_22 rfl rfl rfl ?_
  refine s_putU C 26 dJx4a65c_clear_da8c8_23 rfl p_Jx4a65c_48 hO (by first | decide | omega) rfl rfl rfl (fs' := [.int (mcv + (nI 1)), .ref e, .int (nI 0)]) rfl (fun M3 U4 => ?_)
  have hE := U4.o hO hE (by first | decide | omega)
  have hF := hF.put U4 hO (by first | decide | (simp; done) | (simp; omega) | (simp [*]; done))
  have hO := U4.s
  refine s_istore_n C 27 dJx4a65c_clear_da8c8_26 rfl rfl rfl ?_
  dsimp only [List.set]
  suffices lp27 : ∀ (fu27 : Nat) (i : Nat) (g9 : Nat → Option Nat) (M9 : mM), n - i < fu27 → i ≤ n → M9 a = some (tl, .inl (0, [.int (mcv + nI 1), .ref e, .int (nI 0)])) → M9 e = some (tE, .inr (2, cap, .inr g9)) → mZ [tl, te] M M9 → V X 0 0 27 [some (.ref a), some (.ref e), some (.int (nI n)), some (.int (nI i))] [] M9 from lp27 (n + 1) 0 _ _ (by omega) (by omega) hO hE hF
  intro fu27
  induction fu27 with
  | zero => intro i g9 M9 hi0 hi hO hE hF; omega
  | succ fu27 ih27 =>
    intro i g9 M9 hi0 hi hO hE hF
    refine s_iload_n C 28 dJx4a65c_clear_da8c8_27 rfl rfl ?_
    refine s_iload_n C 29 dJx4a65c_clear_da8c8_28 rfl rfl ?_
    refine s_icmp_geN C 42 32 dJx4a65c_clear_da8c8_29 (by decide) rfl (by omega) (by omega) (fun z29 => ?_) (fun z29 => ?_)
    · skip
      exact s_vret C dJx4a65c_clear_da8c8_42 Tr rfl ⟨rfl, g9, ⟨_, e, tE, hO, hE, hcap, Nat.zero_le _, hc22⟩, hF⟩
    · skip
      refine s_aload_n C 33 dJx4a65c_clear_da8c8_32 rfl rfl ?_
      refine s_iload_n C 34 dJx4a65c_clear_da8c8_33 rfl rfl ?_
      refine s_null C 35 dJx4a65c_clear_da8c8_34 rfl ?_
      have htE : tE = te := by omega
      refine s_aastNU C 36 dJx4a65c_clear_da8c8_35 rfl hE (by first | decide | omega) (by omega) (by omega) (fun M5 U6 => ?_)
      have hO := U6.o hE hO (by first | decide | omega)
      have hF := hF.put U6 hE (by first | decide | (simp; done) | (simp; omega) | (simp [*]; done))
      have hE := U6.s
      refine s_iinc C 39 (nI (i + 1)) dJx4a65c_clear_da8c8_36 rfl rfl (by rw [← nI_add]; rfl) rfl ?_
      dsimp only [List.set]
      refine s_goto C 27 dJx4a65c_clear_da8c8_39 (by decide) ?_
      exact ih27 (i + 1) _ _ (by omega) (by omega) hO hE hF

set_option maxRecDepth 100000 in
set_option maxHeartbeats 4000000 in
/-- fastRemove -/
theorem c_fastRemove {G : mG} {M : mM} {tl te a n cap i e tE : Nat} {mcv : Int32} {g : Nat → Option Nat} (hO : M a = some (tl, .inl (0, [.int mcv, .ref e, .int (nI n)]))) (hE : M e = some (tE, .inr (2, cap, .inr g))) (hcap : tE = te ∧ 0 < cap ∨ tE = 0 ∧ cap = 0 ∧ e = G.2.2.2.2.2.2.1) (hn : n ≤ cap) (hc22 : cap ≤ 22) (htl : tl ≠ 0) (hte : te ≠ 0) (htt : tl ≠ te) (hl1 : tl ≠ 1) (he1 : te ≠ 1) (hi : i < n) (hT : ∀ k, k < n → ∀ y, g k = some y → ∃ fs, M y = some (1, .inl (6, fs))) : CC G iJx4a65c_fastRemove_b59b0 0 0 [.ref a, .ref e, .int (nI i)] M (fun r M1 => r = none ∧ ∃ g2, lR G M1 tl te a (n - 1) cap g2 ∧ (∀ k, k < n - 1 → g2 k = if k < i then g k else g (k + 1)) ∧ mZ [tl, te] M M1) := by
  refine CC.of rfl (Nat.le_of_ble_eq_true rfl) rfl (fun X C Tr => ?_)
  show V X 0 0 0 [some (.ref a), some (.ref e), some (.int (nI i)), none] [] M
  have hF : mZ [tl, te] M M := mZ.rf
  refine s_aload_n C 1 dJx4a65c_fastRemove_b59b0_0 rfl rfl ?_
  refine s_dup C 2 dJx4a65c_fastRemove_b59b0_1 rfl rfl ?_
  refine s_getf C 5 dJx4a65c_fastRemove_b59b0_2 rfl f_Jx4a65c_63 hO rfl ?_
  refine s_iconst C 6 (nI 1) dJx4a65c_fastRemove_b59b0_5 rfl (by decide) ?_
  refine s_iadd C 7 dJx4a65c_fastRemove_b59b0_6 rfl ?_
  refine s_putU C 10 dJx4a65c_fastRemove_b59b0_7 rfl p_Jx4a65c_63 hO (by first | decide | omega) rfl rfl rfl (fs' := [.int (mcv + (nI 1)), .ref e, .int (nI n)]) rfl (fun M1 U2 => ?_)
  have hE := U2.o hO hE (by first | decide | omega)
  have hF := hF.put U2 hO (by first | decide | (simp; done) | (simp; omega) | (simp [*]; done))
  have hO := U2.s
  refine s_aload_n C 11 dJx4a65c_fastRemove_b59b0_10 rfl rfl ?_
  refine s_getf C 14 dJx4a65c_fastRemove_b59b0_11 rfl f_Jx4a65c_48 hO rfl ?_
  refine s_iconst C 15 (nI 1) dJx4a65c_fastRemove_b59b0_14 rfl (by decide) ?_
  refine s_isubN C 16 dJx4a65c_fastRemove_b59b0_15 rfl (by omega) ?_
  refine s_dup C 17 dJx4a65c_fastRemove_b59b0_16 rfl rfl ?_
  refine s_istore_n C 18 dJx4a65c_fastRemove_b59b0_17 rfl rfl rfl ?_
  dsimp only [List.set]
  refine s_iload_n C 19 dJx4a65c_fastRemove_b59b0_18 rfl rfl ?_
  refine s_icmp_leN C 34 22 dJx4a65c_fastRemove_b59b0_19 (by decide) rfl (by omega) (by omega) (fun z19 => ?_) (fun z19 => ?_)
  · skip
    have htE : tE = te := by omega
    have hg2 : ∀ k, k < n - 1 → va_up g (n - 1) none k = if k < i then g k else g (k + 1) := by
      intro k hk
      rw [va_up_ne _ _ (by omega), if_pos (by omega)]
    refine s_aload_n C 35 dJx4a65c_fastRemove_b59b0_34 rfl rfl ?_
    refine s_aload_n C 36 dJx4a65c_fastRemove_b59b0_35 rfl rfl ?_
    refine s_iload_n C 37 dJx4a65c_fastRemove_b59b0_36 rfl rfl ?_
    refine s_dup_x1 C 38 dJx4a65c_fastRemove_b59b0_37 rfl rfl rfl ?_
    refine s_putU C 41 dJx4a65c_fastRemove_b59b0_38 rfl p_Jx4a65c_48 hO (by first | decide | omega) rfl rfl rfl (fs' := [.int (mcv + (nI 1)), .ref e, .int (nI (n - 1))]) rfl (fun M3 U4 => ?_)
    have hE := U4.o hO hE (by first | decide | omega)
    have hF := hF.put U4 hO (by first | decide | (simp; done) | (simp; omega) | (simp [*]; done))
    have hO := U4.s
    refine s_null C 42 dJx4a65c_fastRemove_b59b0_41 rfl ?_
    refine s_aastNU C 43 dJx4a65c_fastRemove_b59b0_42 rfl hE (by first | decide | omega) (by omega) (by omega) (fun M5 U6 => ?_)
    have hO := U6.o hE hO (by first | decide | omega)
    have hF := hF.put U6 hE (by first | decide | (simp; done) | (simp; omega) | (simp [*]; done))
    have hE := U6.s
    exact s_vret C dJx4a65c_fastRemove_b59b0_43 Tr rfl ⟨rfl, _, ⟨_, e, tE, hO, hE, hcap, by omega, hc22⟩, hg2, hF⟩
  · skip
    refine s_aload_n C 23 dJx4a65c_fastRemove_b59b0_22 rfl rfl ?_
    refine s_iload_n C 24 dJx4a65c_fastRemove_b59b0_23 rfl rfl ?_
    refine s_iconst C 25 (nI 1) dJx4a65c_fastRemove_b59b0_24 rfl (by decide) ?_
    refine s_iaddN C 26 dJx4a65c_fastRemove_b59b0_25 rfl ?_
    refine s_aload_n C 27 dJx4a65c_fastRemove_b59b0_26 rfl rfl ?_
    refine s_iload_n C 28 dJx4a65c_fastRemove_b59b0_27 rfl rfl ?_
    refine s_iload_n C 29 dJx4a65c_fastRemove_b59b0_28 rfl rfl ?_
    refine s_iload_n C 30 dJx4a65c_fastRemove_b59b0_29 rfl rfl ?_
    refine s_isubN C 31 dJx4a65c_fastRemove_b59b0_30 rfl (by omega) ?_
    refine s_acopy C 34 dJx4a65c_fastRemove_b59b0_31 rfl ay_linkL ay_nat ay_stat ay_ini hE hE (by omega) (by omega) (by omega) (by omega) (by omega) (by omega) (mTit.at hF (fun k hk y hy => hT (i + 1 + k) (by omega) y hy) (by simp; omega)) rfl (by decide) (Nat.le_of_ble_eq_true rfl) (fun M7 U8 => ?_)
    have htE : tE = te := by omega
    have hO := U8.o hE hO (by first | decide | omega)
    have hF := hF.put U8 hE (by first | decide | (simp; done) | (simp; omega) | (simp [*]; done))
    have hE := U8.s
    have hg2 : ∀ k, k < n - 1 → va_up (va_cpy g g (i + 1) i (n - 1 - i)) (n - 1) none k = if k < i then g k else g (k + 1) := by
      intro k hk
      rw [va_up_ne _ _ (by omega)]; unfold va_cpy
      by_cases hk2 : k < i
      · rw [if_neg (by omega), if_pos hk2]
      · rw [if_pos (by omega), if_neg hk2]; congr 1; omega
    refine s_aload_n C 35 dJx4a65c_fastRemove_b59b0_34 rfl rfl ?_
    refine s_aload_n C 36 dJx4a65c_fastRemove_b59b0_35 rfl rfl ?_
    refine s_iload_n C 37 dJx4a65c_fastRemove_b59b0_36 rfl rfl ?_
    refine s_dup_x1 C 38 dJx4a65c_fastRemove_b59b0_37 rfl rfl rfl ?_
    refine s_putU C 41 dJx4a65c_fastRemove_b59b0_38 rfl p_Jx4a65c_48 hO (by first | decide | omega) rfl rfl rfl (fs' := [.int (mcv + (nI 1)), .ref e, .int (nI (n - 1))]) rfl (fun M9 U10 => ?_)
    have hE := U10.o hO hE (by first | decide | omega)
    have hF := hF.put U10 hO (by first | decide | (simp; done) | (simp; omega) | (simp [*]; done))
    have hO := U10.s
    refine s_null C 42 dJx4a65c_fastRemove_b59b0_41 rfl ?_
    refine s_aastNU C 43 dJx4a65c_fastRemove_b59b0_42 rfl hE (by first | decide | omega) (by omega) (by omega) (fun M11 U12 => ?_)
    have hO := U12.o hE hO (by first | decide | omega)
    have hF := hF.put U12 hE (by first | decide | (simp; done) | (simp; omega) | (simp [*]; done))
    have hE := U12.s
    exact s_vret C dJx4a65c_fastRemove_b59b0_43 Tr rfl ⟨rfl, _, ⟨_, e, tE, hO, hE, hcap, by omega, hc22⟩, hg2, hF⟩

set_option maxRecDepth 100000 in
set_option maxHeartbeats 4000000 in
/-- remove(int) -/
theorem c_remove {G : mG} {M : mM} {tl te a n cap : Nat} {g : Nat → Option Nat} {i x : Nat} (h : lR G M tl te a n cap g) (htl : tl ≠ 0) (hte : te ≠ 0) (htt : tl ≠ te) (hl1 : tl ≠ 1) (he1 : te ≠ 1) (hi : i < n) (hx : g i = some x) (hT : ∀ k, k < n → ∀ y, g k = some y → ∃ fs, M y = some (1, .inl (6, fs))) : CC G iJx4a65c_remove_915e3 0 0 [.ref a, .int (nI i)] M (fun r M1 => r = some (.ref x) ∧ ∃ g2, lR G M1 tl te a (n - 1) cap g2 ∧ (∀ k, k < n - 1 → g2 k = if k < i then g k else g (k + 1)) ∧ mZ [tl, te] M M1) := by
  refine CC.of rfl (Nat.le_of_ble_eq_true rfl) rfl (fun X C Tr => ?_)
  show V X 0 0 0 [some (.ref a), some (.int (nI i)), none, none] [] M
  obtain ⟨mcv, e, tE, hO, hE, hcap, hn, hc22⟩ := h
  refine s_iload_n C 1 dJx4a65c_remove_915e3_0 rfl rfl ?_
  refine s_aload_n C 2 dJx4a65c_remove_915e3_1 rfl rfl ?_
  refine s_getf C 5 dJx4a65c_remove_915e3_2 rfl f_Jx4a65c_48 hO rfl ?_
  refine s_invS C 8 0 0 [] dJx4a65c_remove_915e3_5 rfl m_Jx4a65c_118 (c_chk hi (by omega)) rfl rfl rfl ⟨by decide, by decide⟩ (Nat.le_of_ble_eq_true rfl) (by omega) (by omega) ?_
  rintro _ M1 ⟨rfl, rfl⟩
  dsimp only [Option.toList, List.cons_append, List.nil_append]
  refine s_pop C 9 dJx4a65c_remove_915e3_8 rfl rfl ?_
  refine s_aload_n C 10 dJx4a65c_remove_915e3_9 rfl rfl ?_
  refine s_getf C 13 dJx4a65c_remove_915e3_10 rfl f_Jx4a65c_9 hO rfl ?_
  refine s_astore_n C 14 dJx4a65c_remove_915e3_13 rfl rfl rfl ?_
  dsimp only [List.set]
  refine s_aload_n C 15 dJx4a65c_remove_915e3_14 rfl rfl ?_
  refine s_iload_n C 16 dJx4a65c_remove_915e3_15 rfl rfl ?_
  refine s_aald C 17 dJx4a65c_remove_915e3_16 rfl hE (by decide) (by omega) (by omega) ?_
  rw [hx]
  dsimp only [va_rf]
  refine s_astore_n C 18 dJx4a65c_remove_915e3_17 rfl rfl rfl ?_
  dsimp only [List.set]
  refine s_aload_n C 19 dJx4a65c_remove_915e3_18 rfl rfl ?_
  refine s_aload_n C 20 dJx4a65c_remove_915e3_19 rfl rfl ?_
  refine s_iload_n C 21 dJx4a65c_remove_915e3_20 rfl rfl ?_
  refine s_invV C 24 0 0 [] (mRv_of hO rfl) dJx4a65c_remove_915e3_21 rfl m_Jx4a65c_144 (c_fastRemove hO hE hcap hn hc22 htl hte htt hl1 he1 hi hT) rfl rfl rfl ⟨by decide, by decide⟩ (Nat.le_of_ble_eq_true rfl) (by omega) (by omega) ?_
  rintro _ M2 ⟨rfl, g2, hl2, hg2, hF⟩
  dsimp only [Option.toList, List.cons_append, List.nil_append]
  refine s_aload_n C 25 dJx4a65c_remove_915e3_24 rfl rfl ?_
  exact s_aret C dJx4a65c_remove_915e3_25 Tr rfl (Or.inl ⟨_, rfl⟩) ⟨rfl, g2, hl2, hg2, hF⟩

set_option maxRecDepth 100000 in
set_option maxHeartbeats 4000000 in
/-- ArraysSupport.newLength -/
theorem c_newLength {G : mG} {M : mM} {a b c : Nat} (ha : 0 < a) (ha2 : a < 10000) (hb : b < 10000) (hc : c < 10000) : CC G iJ8_newLength_cabcc 0 0 [.int (nI a), .int (nI b), .int (nI c)] M (fun r M1 => r = some (.int (nI (a + max b c))) ∧ M = M1) := by
  refine CC.of rfl (Nat.le_of_ble_eq_true rfl) rfl (fun X C Tr => ?_)
  show V X 0 0 0 [some (.int (nI a)), some (.int (nI b)), some (.int (nI c)), none] [] M
  refine s_iload_n C 1 dJ8_newLength_cabcc_0 rfl rfl ?_
  refine s_iload_n C 2 dJ8_newLength_cabcc_1 rfl rfl ?_
  refine s_iload_n C 3 dJ8_newLength_cabcc_2 rfl rfl ?_
  refine s_maxN C 6 dJ8_newLength_cabcc_3 rfl mm_J8_194 rfl (by decide) (Nat.le_of_ble_eq_true rfl) (by omega) (by omega) ?_
  refine s_iaddN C 7 dJ8_newLength_cabcc_6 rfl ?_
  refine s_istore_n C 8 dJ8_newLength_cabcc_7 rfl rfl rfl ?_
  dsimp only [List.set]
  refine s_iconst C 9 (nI 0) dJ8_newLength_cabcc_8 rfl (by decide) ?_
  refine s_iload_n C 10 dJ8_newLength_cabcc_9 rfl rfl ?_
  refine s_icmp_geN C 21 13 dJ8_newLength_cabcc_10 (by decide) rfl (by omega) (by omega) (fun z10 => ?_) (fun z10 => ?_)
  · skip
    omega
  · skip
    refine s_iload_n C 14 dJ8_newLength_cabcc_13 rfl rfl ?_
    refine s_ldci C 16 (nI 2147483639) dJ8_newLength_cabcc_14 rfl ol_max ?_
    refine s_icmp_gtN C 21 19 dJ8_newLength_cabcc_16 (by decide) rfl (by omega) (by omega) (fun z16 => ?_) (fun z16 => ?_)
    · skip
      omega
    · skip
      refine s_iload_n C 20 dJ8_newLength_cabcc_19 rfl rfl ?_
      exact s_iret C dJ8_newLength_cabcc_20 Tr rfl ⟨rfl, rfl⟩

set_option maxRecDepth 100000 in
set_option maxHeartbeats 4000000 in
/-- Arrays.copyOf -/
theorem c_copyOf3 {G : mG} {M : mM} {e tE cap len tg : Nat} {g : Nat → Option Nat} (hE : M e = some (tE, .inr (2, cap, .inr g))) (htE : tE ≠ 0) (htg : tg ≠ 0) (hcap : cap ≤ 22) (hlen : len ≤ 22) (hT : ∀ k, k < cap → ∀ y, g k = some y → ∃ fs, M y = some (1, .inl (6, fs))) : CC G iJ7_copyOf_6403c 1 22 [.ref e, .int (nI len), .ref G.2.2.2.2.2.2.2] M (fun r M1 => ∃ e2, r = some (.ref e2) ∧ M e2 = none ∧ mU M e2 (tg, .inr (2, len, .inr (va_cpy g (fun _ => none) 0 0 (min cap len)))) M1) := by
  refine CC.of rfl (Nat.le_of_ble_eq_true rfl) rfl (fun X C Tr => ?_)
  show V X 1 22 0 [some (.ref e), some (.int (nI len)), some (.ref G.2.2.2.2.2.2.2), none] [] M
  have hF : mZ [] M M := mZ.rf
  refine s_aload_n C 1 dJ7_copyOf_6403c_0 rfl rfl ?_
  refine s_ldcC C 3 dJ7_copyOf_6403c_1 rfl oc_link ?_
  refine s_acmp_ne C 13 6 dJ7_copyOf_6403c_3 (by decide) rfl (fun z3 => ?_) (fun z3 => ?_)
  · skip
    exact absurd rfl z3
  · skip
    refine s_iload_n C 7 dJ7_copyOf_6403c_6 rfl rfl ?_
    refine s_newqU C 10 0 0 tg dJ7_copyOf_6403c_7 rfl (Or.inl ⟨rfl, rfl⟩) oc_new (by omega) htg (by omega) (by omega) (fun e2 Ma hne2 Ua => ?_)
    have hE := Ua.n hne2 hE
    have hne20 := hF.no hne2
    have hF := hF.new Ua hne2
    have hE2 := Ua.s
    refine s_goto C 24 dJ7_copyOf_6403c_10 (by decide) ?_
    refine s_astore_n C 25 dJ7_copyOf_6403c_24 rfl rfl rfl ?_
    dsimp only [List.set]
    refine s_aload_n C 26 dJ7_copyOf_6403c_25 rfl rfl ?_
    refine s_iconst C 27 (nI 0) dJ7_copyOf_6403c_26 rfl (by decide) ?_
    refine s_aload_n C 28 dJ7_copyOf_6403c_27 rfl rfl ?_
    refine s_iconst C 29 (nI 0) dJ7_copyOf_6403c_28 rfl (by decide) ?_
    refine s_aload_n C 30 dJ7_copyOf_6403c_29 rfl rfl ?_
    refine s_alen C 31 dJ7_copyOf_6403c_30 rfl hE (by decide) ?_
    refine s_iload_n C 32 dJ7_copyOf_6403c_31 rfl rfl ?_
    refine s_minN C 35 dJ7_copyOf_6403c_32 rfl mm_J7_304 rfl (by decide) (Nat.le_of_ble_eq_true rfl) (by omega) (by omega) ?_
    refine s_acopy (sp := 0) (dp := 0) C 38 dJ7_copyOf_6403c_35 rfl ay_link7 ay_nat ay_stat ay_ini hE hE2 htE htg (by omega) (by omega) (by omega) (by omega) (fun k hk y hy => by rw [Nat.zero_add] at hy; obtain ⟨fs, h2⟩ := hT k (by omega) y hy; exact ⟨1, fs, Ua.n hne2 h2⟩) rfl (by decide) (Nat.le_of_ble_eq_true rfl) (fun Mb Ub => ?_)
    refine s_aload_n C 39 dJ7_copyOf_6403c_38 rfl rfl ?_
    exact s_aret C dJ7_copyOf_6403c_39 Tr rfl (Or.inr ⟨_, rfl⟩) ⟨e2, rfl, hne2, Ub.1, fun b hb => by rw [Ub.2 b hb, Ua.2 b hb]⟩

set_option maxRecDepth 100000 in
set_option maxHeartbeats 4000000 in
/-- Arrays.copyOf -/
theorem c_copyOf {G : mG} {M : mM} {e tE cap len tg : Nat} {g : Nat → Option Nat} (hE : M e = some (tE, .inr (2, cap, .inr g))) (htE : tE ≠ 0) (htg : tg ≠ 0) (hcap : cap ≤ 22) (hlen : len ≤ 22) (hT : ∀ k, k < cap → ∀ y, g k = some y → ∃ fs, M y = some (1, .inl (6, fs))) : CC G iJ7_copyOf_1904c 1 22 [.ref e, .int (nI len)] M (fun r M1 => ∃ e2, r = some (.ref e2) ∧ M e2 = none ∧ mU M e2 (tg, .inr (2, len, .inr (va_cpy g (fun _ => none) 0 0 (min cap len)))) M1) := by
  refine CC.of rfl (Nat.le_of_ble_eq_true rfl) rfl (fun X C Tr => ?_)
  show V X 1 22 0 [some (.ref e), some (.int (nI len))] [] M
  refine s_aload_n C 1 dJ7_copyOf_1904c_0 rfl rfl ?_
  refine s_iload_n C 2 dJ7_copyOf_1904c_1 rfl rfl ?_
  refine s_aload_n C 3 dJ7_copyOf_1904c_2 rfl rfl ?_
  refine s_getC C 6 dJ7_copyOf_1904c_3 rfl hE gc_link gc_sel gc_inst gc_nat rfl (by decide) (Nat.le_of_ble_eq_true rfl) ?_
  refine s_invS C 9 0 0 [] dJ7_copyOf_1904c_6 rfl m_J7_300 (c_copyOf3 (tg := tg) hE htE htg hcap hlen hT) rfl rfl rfl ⟨by decide, by decide⟩ (Nat.le_of_ble_eq_true rfl) (by omega) (by omega) ?_
  rintro _ M1 ⟨e2, rfl, hne2, hU⟩
  dsimp only [Option.toList, List.cons_append, List.nil_append]
  exact s_aret C dJ7_copyOf_1904c_9 Tr rfl (Or.inr ⟨_, rfl⟩) ⟨e2, rfl, hne2, hU⟩

set_option maxRecDepth 100000 in
set_option maxHeartbeats 4000000 in
/-- grow(int) -/
theorem c_grow1 {G : mG} {M : mM} {tl te a n cap e tE : Nat} {mcv : Int32} {g : Nat → Option Nat} (hO : M a = some (tl, .inl (0, [.int mcv, .ref e, .int (nI n)]))) (hE : M e = some (tE, .inr (2, cap, .inr g))) (hcap : tE = te ∧ 0 < cap ∨ tE = 0 ∧ cap = 0 ∧ e = G.2.2.2.2.2.2.1) (hn : n = cap) (hc15 : cap ≤ 15) (htl : tl ≠ 0) (hte : te ≠ 0) (htt : tl ≠ te) (hT : ∀ k, k < n → ∀ y, g k = some y → ∃ fs, M y = some (1, .inl (6, fs))) : CC G iJx4a65c_grow_92f84 1 22 [.ref a, .int (nI (n + 1))] M (fun r M1 => ∃ e2 cap2 g2, r = some (.ref e2) ∧ M1 a = some (tl, .inl (0, [.int mcv, .ref e2, .int (nI n)])) ∧ M1 e2 = some (te, .inr (2, cap2, .inr g2)) ∧ n < cap2 ∧ cap2 ≤ 22 ∧ (∀ k, k < n → g2 k = g k) ∧ mZ [tl] M M1) := by
  refine CC.of rfl (Nat.le_of_ble_eq_true rfl) rfl (fun X C Tr => ?_)
  show V X 1 22 0 [some (.ref a), some (.int (nI (n + 1))), none, none] [] M
  have hF : mZ [tl] M M := mZ.rf
  refine s_aload_n C 1 dJx4a65c_grow_92f84_0 rfl rfl ?_
  refine s_getf C 4 dJx4a65c_grow_92f84_1 rfl f_Jx4a65c_9 hO rfl ?_
  refine s_alen C 5 dJx4a65c_grow_92f84_4 rfl hE (by decide) ?_
  refine s_istore_n C 6 dJx4a65c_grow_92f84_5 rfl rfl rfl ?_
  dsimp only [List.set]
  refine s_iload_n C 7 dJx4a65c_grow_92f84_6 rfl rfl ?_
  refine s_if_gtN C 20 10 dJx4a65c_grow_92f84_7 (by decide) rfl (by omega) (fun z7 => ?_) (fun z7 => ?_)
  · skip
    refine s_iload_n C 21 dJx4a65c_grow_92f84_20 rfl rfl ?_
    refine s_iload_n C 22 dJx4a65c_grow_92f84_21 rfl rfl ?_
    refine s_iload_n C 23 dJx4a65c_grow_92f84_22 rfl rfl ?_
    refine s_isubN C 24 dJx4a65c_grow_92f84_23 rfl (by omega) ?_
    refine s_iload_n C 25 dJx4a65c_grow_92f84_24 rfl rfl ?_
    refine s_iconst C 26 (nI 1) dJx4a65c_grow_92f84_25 rfl (by decide) ?_
    refine s_ishr C 27 dJx4a65c_grow_92f84_26 rfl ?_
    rw [show nI cap >>> (nI 1 &&& 31) = nI (cap / 2) from pk_shrN (by omega) (nI 1 &&& 31) 1 (by decide)]
    refine s_invS C 30 1 22 [] dJx4a65c_grow_92f84_27 rfl m_Jx4a65c_73 (c_newLength (a := cap) (b := n + 1 - cap) (c := cap / 2) (by omega) (by omega) (by omega) (by omega)) rfl rfl rfl ⟨by decide, by decide⟩ (Nat.le_of_ble_eq_true rfl) (by omega) (by omega) ?_
    rintro _ M1 ⟨rfl, rfl⟩
    dsimp only [Option.toList, List.cons_append, List.nil_append]
    refine s_istore_n C 31 dJx4a65c_grow_92f84_30 rfl rfl rfl ?_
    dsimp only [List.set]
    refine s_aload_n C 32 dJx4a65c_grow_92f84_31 rfl rfl ?_
    refine s_aload_n C 33 dJx4a65c_grow_92f84_32 rfl rfl ?_
    refine s_getf C 36 dJx4a65c_grow_92f84_33 rfl f_Jx4a65c_9 hO rfl ?_
    refine s_iload_n C 37 dJx4a65c_grow_92f84_36 rfl rfl ?_
    refine s_invS C 40 0 0 [.ref a] dJx4a65c_grow_92f84_37 rfl m_Jx4a65c_66 (c_copyOf (tg := te) hE (by omega) hte (by omega) (by omega) (fun k hk => hT k (by omega))) rfl rfl rfl ⟨by decide, by decide⟩ (Nat.le_of_ble_eq_true rfl) (by omega) (by omega) ?_
    rintro _ M2 ⟨e2, rfl, hne2, hU⟩
    dsimp only [Option.toList, List.cons_append, List.nil_append]
    have hO := hU.n hne2 hO
    have hE := hU.n hne2 hE
    have hne20 := hF.no hne2
    have hF := hF.new hU hne2
    have hE2 := hU.s
    have hg2 : ∀ k, k < n → va_cpy g (fun _ => none) 0 0 (min cap (cap + max (n + 1 - cap) (cap / 2))) k = g k := fun k hk => by rw [pk_cpy_in (by omega) (by omega)]; congr 1; omega
    refine s_dup_x1 C 41 dJx4a65c_grow_92f84_40 rfl rfl rfl ?_
    refine s_putU C 44 dJx4a65c_grow_92f84_41 rfl p_Jx4a65c_9 hO (by first | decide | omega) rfl rfl rfl (fs' := [.int mcv, .ref e2, .int (nI n)]) rfl (fun M3 U4 => ?_)
    have hE := U4.o hO hE (by first | decide | omega)
    have hE2 := U4.o hO hE2 (by first | decide | omega)
    have hF := hF.put U4 hO (by first | decide | (simp; done) | (simp; omega) | (simp [*]; done))
    have hO := U4.s
    exact s_aret C dJx4a65c_grow_92f84_44 Tr rfl (Or.inr ⟨_, rfl⟩) ⟨e2, _, _, rfl, hO, hE2, by omega, by omega, hg2, hF⟩
  · skip
    refine s_aload_n C 11 dJx4a65c_grow_92f84_10 rfl rfl ?_
    refine s_getf C 14 dJx4a65c_grow_92f84_11 rfl f_Jx4a65c_9 hO rfl ?_
    refine s_gets C 17 dJx4a65c_grow_92f84_14 rfl (fun s h => h.2.1) dc_link ?_
    refine s_acmp_eq C 45 20 dJx4a65c_grow_92f84_17 (by decide) rfl (fun z17 => ?_) (fun z17 => ?_)
    · skip
      refine s_aload_n C 46 dJx4a65c_grow_92f84_45 rfl rfl ?_
      refine s_bipush C 48 (nI 10) dJx4a65c_grow_92f84_46 rfl (by decide) ?_
      refine s_iload_n C 49 dJx4a65c_grow_92f84_48 rfl rfl ?_
      refine s_maxN C 52 dJx4a65c_grow_92f84_49 rfl mm_Jx4a65c_79 rfl (by decide) (Nat.le_of_ble_eq_true rfl) (by omega) (by omega) ?_
      refine s_newqU C 55 0 0 te dJx4a65c_grow_92f84_52 rfl (Or.inl ⟨rfl, rfl⟩) oc_newL (by omega) hte (by omega) (by omega) (fun e2 Ma hne2 Ua => ?_)
      have hg2 : ∀ k, k < n → (fun _ => none : Nat → Option Nat) k = g k := fun k hk => by omega
      have hO := Ua.n hne2 hO
      have hE := Ua.n hne2 hE
      have hne20 := hF.no hne2
      have hF := hF.new Ua hne2
      have hE2 := Ua.s
      refine s_dup_x1 C 56 dJx4a65c_grow_92f84_55 rfl rfl rfl ?_
      refine s_putU C 59 dJx4a65c_grow_92f84_56 rfl p_Jx4a65c_9 hO (by first | decide | omega) rfl rfl rfl (fs' := [.int mcv, .ref e2, .int (nI n)]) rfl (fun M5 U6 => ?_)
      have hE := U6.o hO hE (by first | decide | omega)
      have hE2 := U6.o hO hE2 (by first | decide | omega)
      have hF := hF.put U6 hO (by first | decide | (simp; done) | (simp; omega) | (simp [*]; done))
      have hO := U6.s
      exact s_aret C dJx4a65c_grow_92f84_59 Tr rfl (Or.inr ⟨_, rfl⟩) ⟨e2, _, _, rfl, hO, hE2, by omega, by omega, hg2, hF⟩
    · skip
      omega

set_option maxRecDepth 100000 in
set_option maxHeartbeats 4000000 in
/-- grow() -/
theorem c_grow0 {G : mG} {M : mM} {tl te a n cap e tE : Nat} {mcv : Int32} {g : Nat → Option Nat} (hO : M a = some (tl, .inl (0, [.int mcv, .ref e, .int (nI n)]))) (hE : M e = some (tE, .inr (2, cap, .inr g))) (hcap : tE = te ∧ 0 < cap ∨ tE = 0 ∧ cap = 0 ∧ e = G.2.2.2.2.2.2.1) (hn : n = cap) (hc15 : cap ≤ 15) (htl : tl ≠ 0) (hte : te ≠ 0) (htt : tl ≠ te) (hT : ∀ k, k < n → ∀ y, g k = some y → ∃ fs, M y = some (1, .inl (6, fs))) : CC G iJx4a65c_grow_d5877 1 22 [.ref a] M (fun r M1 => ∃ e2 cap2 g2, r = some (.ref e2) ∧ M1 a = some (tl, .inl (0, [.int mcv, .ref e2, .int (nI n)])) ∧ M1 e2 = some (te, .inr (2, cap2, .inr g2)) ∧ n < cap2 ∧ cap2 ≤ 22 ∧ (∀ k, k < n → g2 k = g k) ∧ mZ [tl] M M1) := by
  refine CC.of rfl (Nat.le_of_ble_eq_true rfl) rfl (fun X C Tr => ?_)
  show V X 1 22 0 [some (.ref a)] [] M
  refine s_aload_n C 1 dJx4a65c_grow_d5877_0 rfl rfl ?_
  refine s_aload_n C 2 dJx4a65c_grow_d5877_1 rfl rfl ?_
  refine s_getf C 5 dJx4a65c_grow_d5877_2 rfl f_Jx4a65c_48 hO rfl ?_
  refine s_iconst C 6 (nI 1) dJx4a65c_grow_d5877_5 rfl (by decide) ?_
  refine s_iaddN C 7 dJx4a65c_grow_d5877_6 rfl ?_
  refine s_invV C 10 0 0 [] (mRv_of hO rfl) dJx4a65c_grow_d5877_7 rfl m_Jx4a65c_69 (c_grow1 hO hE hcap hn hc15 htl hte htt hT) rfl rfl rfl ⟨by decide, by decide⟩ (Nat.le_of_ble_eq_true rfl) (by omega) (by omega) ?_
  rintro _ M1 ⟨e2, cap2, g2, rfl, h1, h2, h3, h4, h5, h6⟩
  dsimp only [Option.toList, List.cons_append, List.nil_append]
  exact s_aret C dJx4a65c_grow_d5877_10 Tr rfl (Or.inr ⟨_, rfl⟩) ⟨e2, cap2, g2, rfl, h1, h2, h3, h4, h5, h6⟩

set_option maxRecDepth 100000 in
set_option maxHeartbeats 4000000 in
/-- add(E, Object[], int) -/
theorem c_add3 {G : mG} {M : mM} {tl te a n cap e tE : Nat} {mcv : Int32} {g : Nat → Option Nat} (hO : M a = some (tl, .inl (0, [.int mcv, .ref e, .int (nI n)]))) (hE : M e = some (tE, .inr (2, cap, .inr g))) (hcap : tE = te ∧ 0 < cap ∨ tE = 0 ∧ cap = 0 ∧ e = G.2.2.2.2.2.2.1) (hn : n ≤ cap) (hc22 : cap ≤ 22) (htl : tl ≠ 0) (hte : te ≠ 0) (htt : tl ≠ te) (hT : ∀ k, k < n → ∀ y, g k = some y → ∃ fs, M y = some (1, .inl (6, fs))) {x tx : Nat} {vs : List Value} (hX : M x = some (tx, .inl (6, vs))) (hx1 : tx ≠ tl) (hx2 : tx ≠ te) (hn15 : n ≤ 15) : CC G iJx4a65c_add_72be8 1 22 [.ref a, .ref x, .ref e, .int (nI n)] M (fun r M1 => r = none ∧ ∃ cap2 g2, lR G M1 tl te a (n + 1) cap2 g2 ∧ (∀ k, k < n → g2 k = g k) ∧ g2 n = some x ∧ mZ [tl, te] M M1) := by
  refine CC.of rfl (Nat.le_of_ble_eq_true rfl) rfl (fun X C Tr => ?_)
  show V X 1 22 0 [some (.ref a), some (.ref x), some (.ref e), some (.int (nI n))] [] M
  have hF : mZ [tl, te] M M := mZ.rf
  refine s_iload_n C 1 dJx4a65c_add_72be8_0 rfl rfl ?_
  refine s_aload_n C 2 dJx4a65c_add_72be8_1 rfl rfl ?_
  refine s_alen C 3 dJx4a65c_add_72be8_2 rfl hE (by decide) ?_
  refine s_icmp_neN C 11 6 dJx4a65c_add_72be8_3 (by decide) rfl (by omega) (by omega) (fun z3 => ?_) (fun z3 => ?_)
  · skip
    have htE : tE = te := by omega
    refine s_aload_n C 12 dJx4a65c_add_72be8_11 rfl rfl ?_
    refine s_iload_n C 13 dJx4a65c_add_72be8_12 rfl rfl ?_
    refine s_aload_n C 14 dJx4a65c_add_72be8_13 rfl rfl ?_
    refine s_aastU C 15 dJx4a65c_add_72be8_14 rfl hE (by first | decide | omega) (Or.inl ⟨rfl, rfl⟩) hX rfl (Or.inl ⟨rfl, rfl⟩) (by omega) (by omega) (fun M1 U2 => ?_)
    have hO := U2.o hE hO (by first | decide | omega)
    have hX := U2.o hE hX (by first | decide | omega)
    have hF := hF.put U2 hE (by first | decide | (simp; done) | (simp; omega) | (simp [*]; done))
    have hE := U2.s
    refine s_aload_n C 16 dJx4a65c_add_72be8_15 rfl rfl ?_
    refine s_iload_n C 17 dJx4a65c_add_72be8_16 rfl rfl ?_
    refine s_iconst C 18 (nI 1) dJx4a65c_add_72be8_17 rfl (by decide) ?_
    refine s_iaddN C 19 dJx4a65c_add_72be8_18 rfl ?_
    refine s_putU C 22 dJx4a65c_add_72be8_19 rfl p_Jx4a65c_48 hO (by first | decide | omega) rfl rfl rfl (fs' := [.int mcv, .ref e, .int (nI (n + 1))]) rfl (fun M3 U4 => ?_)
    have hE := U4.o hO hE (by first | decide | omega)
    have hX := U4.o hO hX (by first | decide | omega)
    have hF := hF.put U4 hO (by first | decide | (simp; done) | (simp; omega) | (simp [*]; done))
    have hO := U4.s
    have hfin : ∃ cap2 g2, lR G M3 tl te a (n + 1) cap2 g2 ∧ (∀ k, k < n → g2 k = g k) ∧ g2 n = some x := ⟨cap, _, ⟨_, e, tE, hO, hE, hcap, by omega, hc22⟩, fun k hk => by rw [va_up_ne _ _ (by omega)], va_up_self _ _ _⟩
    obtain ⟨cap9, g9, f1, f2, f3⟩ := hfin
    exact s_vret C dJx4a65c_add_72be8_22 Tr rfl ⟨rfl, cap9, g9, f1, f2, f3, hF⟩
  · skip
    refine s_aload_n C 7 dJx4a65c_add_72be8_6 rfl rfl ?_
    refine s_invV C 10 0 0 [] (mRv_of hO rfl) dJx4a65c_add_72be8_7 rfl m_Jx4a65c_129 (c_grow0 hO hE hcap (by omega) (by omega) htl hte htt hT) rfl rfl rfl ⟨by decide, by decide⟩ (Nat.le_of_ble_eq_true rfl) (by omega) (by omega) ?_
    rintro _ M5 ⟨e2, cap2, g2, rfl, hO, hE2, hc2, hc3, hg2, hFg⟩
    dsimp only [Option.toList, List.cons_append, List.nil_append]
    have hX := hFg.at hX (by simp; omega)
    have hF := hF.tr (hFg.mono (fun t ht => by simp at ht; simp [ht]))
    refine s_astore_n C 11 dJx4a65c_add_72be8_10 rfl rfl rfl ?_
    dsimp only [List.set]
    refine s_aload_n C 12 dJx4a65c_add_72be8_11 rfl rfl ?_
    refine s_iload_n C 13 dJx4a65c_add_72be8_12 rfl rfl ?_
    refine s_aload_n C 14 dJx4a65c_add_72be8_13 rfl rfl ?_
    refine s_aastU C 15 dJx4a65c_add_72be8_14 rfl hE2 (by first | decide | omega) (Or.inl ⟨rfl, rfl⟩) hX rfl (Or.inl ⟨rfl, rfl⟩) (by omega) (by omega) (fun M6 U7 => ?_)
    have hO := U7.o hE2 hO (by first | decide | omega)
    have hX := U7.o hE2 hX (by first | decide | omega)
    have hF := hF.put U7 hE2 (by first | decide | (simp; done) | (simp; omega) | (simp [*]; done))
    have hE2 := U7.s
    refine s_aload_n C 16 dJx4a65c_add_72be8_15 rfl rfl ?_
    refine s_iload_n C 17 dJx4a65c_add_72be8_16 rfl rfl ?_
    refine s_iconst C 18 (nI 1) dJx4a65c_add_72be8_17 rfl (by decide) ?_
    refine s_iaddN C 19 dJx4a65c_add_72be8_18 rfl ?_
    refine s_putU C 22 dJx4a65c_add_72be8_19 rfl p_Jx4a65c_48 hO (by first | decide | omega) rfl rfl rfl (fs' := [.int mcv, .ref e2, .int (nI (n + 1))]) rfl (fun M8 U9 => ?_)
    have hX := U9.o hO hX (by first | decide | omega)
    have hE2 := U9.o hO hE2 (by first | decide | omega)
    have hF := hF.put U9 hO (by first | decide | (simp; done) | (simp; omega) | (simp [*]; done))
    have hO := U9.s
    have hfin : ∃ cap2 g2, lR G M8 tl te a (n + 1) cap2 g2 ∧ (∀ k, k < n → g2 k = g k) ∧ g2 n = some x := ⟨cap2, _, ⟨_, e2, te, hO, hE2, Or.inl ⟨rfl, by omega⟩, by omega, hc3⟩, fun k hk => by rw [va_up_ne _ _ (by omega)]; exact hg2 k hk, va_up_self _ _ _⟩
    obtain ⟨cap9, g9, f1, f2, f3⟩ := hfin
    exact s_vret C dJx4a65c_add_72be8_22 Tr rfl ⟨rfl, cap9, g9, f1, f2, f3, hF⟩

set_option maxRecDepth 100000 in
set_option maxHeartbeats 4000000 in
/-- add(E) -/
theorem c_add {G : mG} {M : mM} {tl te a n cap : Nat} {g : Nat → Option Nat} (h : lR G M tl te a n cap g) (htl : tl ≠ 0) (hte : te ≠ 0) (htt : tl ≠ te) (hl1 : tl ≠ 1) (he1 : te ≠ 1) (hT : ∀ k, k < n → ∀ y, g k = some y → ∃ fs, M y = some (1, .inl (6, fs))) {x tx : Nat} {vs : List Value} (hX : M x = some (tx, .inl (6, vs))) (hx1 : tx ≠ tl) (hx2 : tx ≠ te) (hn15 : n ≤ 15) : CC G iJx4a65c_add_9ea2d 1 22 [.ref a, .ref x] M (fun r M1 => r = some (.int (nI 1)) ∧ ∃ cap2 g2, lR G M1 tl te a (n + 1) cap2 g2 ∧ (∀ k, k < n → g2 k = g k) ∧ g2 n = some x ∧ mZ [tl, te] M M1) := by
  refine CC.of rfl (Nat.le_of_ble_eq_true rfl) rfl (fun X C Tr => ?_)
  show V X 1 22 0 [some (.ref a), some (.ref x)] [] M
  obtain ⟨mcv, e, tE, hO, hE, hcap, hn, hc22⟩ := h
  have hF : mZ [tl, te] M M := mZ.rf
  refine s_aload_n C 1 dJx4a65c_add_9ea2d_0 rfl rfl ?_
  refine s_dup C 2 dJx4a65c_add_9ea2d_1 rfl rfl ?_
  refine s_getf C 5 dJx4a65c_add_9ea2d_2 rfl f_Jx4a65c_63 hO rfl ?_
  refine s_iconst C 6 (nI 1) dJx4a65c_add_9ea2d_5 rfl (by decide) ?_
  refine s_iadd C 7 dJx4a65c_add_9ea2d_6 rfl ?_
  refine s_putU C 10 dJx4a65c_add_9ea2d_7 rfl p_Jx4a65c_63 hO (by first | decide | omega) rfl rfl rfl (fs' := [.int (mcv + (nI 1)), .ref e, .int (nI n)]) rfl (fun M1 U2 => ?_)
  have hE := U2.o hO hE (by first | decide | omega)
  have hX := U2.o hO hX (by first | decide | omega)
  have hF := hF.put U2 hO (by first | decide | (simp; done) | (simp; omega) | (simp [*]; done))
  have hO := U2.s
  refine s_aload_n C 11 dJx4a65c_add_9ea2d_10 rfl rfl ?_
  refine s_aload_n C 12 dJx4a65c_add_9ea2d_11 rfl rfl ?_
  refine s_aload_n C 13 dJx4a65c_add_9ea2d_12 rfl rfl ?_
  refine s_getf C 16 dJx4a65c_add_9ea2d_13 rfl f_Jx4a65c_9 hO rfl ?_
  refine s_aload_n C 17 dJx4a65c_add_9ea2d_16 rfl rfl ?_
  refine s_getf C 20 dJx4a65c_add_9ea2d_17 rfl f_Jx4a65c_48 hO rfl ?_
  have hT1 : ∀ k, k < n → ∀ y, g k = some y → ∃ fs, M1 y = some (1, .inl (6, fs)) := fun k hk y hy => by obtain ⟨fs, h2⟩ := hT k hk y hy; exact ⟨fs, hF.at h2 (by simp; omega)⟩
  refine s_invV C 23 0 0 [] (mRv_of hO rfl) dJx4a65c_add_9ea2d_20 rfl m_Jx4a65c_131 (c_add3 hO hE hcap hn hc22 htl hte htt hT1 hX hx1 hx2 hn15) rfl rfl rfl ⟨by decide, by decide⟩ (Nat.le_of_ble_eq_true rfl) (by omega) (by omega) ?_
  rintro _ M3 ⟨rfl, cap2, g2, h1, h2, h3, h4⟩
  dsimp only [Option.toList, List.cons_append, List.nil_append]
  refine s_iconst C 24 (nI 1) dJx4a65c_add_9ea2d_23 rfl (by decide) ?_
  exact s_zret C dJx4a65c_add_9ea2d_24 Tr rfl (by decide) ⟨rfl, cap2, g2, h1, h2, h3, hF.tr h4⟩
