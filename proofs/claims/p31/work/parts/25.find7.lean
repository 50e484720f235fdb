set_option maxRecDepth 100000 in
set_option maxHeartbeats 4000000 in
theorem z_init {G : mG} {M : mM} {z : Nat} {g0 : Nat → Option Nat} {hs : Nat → mSt} (hZ : M z = some (6, .inl (7, [.null, .null, .null, .null, .null, .null]))) (hE0 : M G.2.2.2.2.2.2.1 = some (0, .inr (2, 0, .inr g0))) : CC G iX6_init 62 1072 [.ref z] M (fun r M1 => r = none ∧ zR G M1 z st0 0 hs 0 (fun _ => 0) ∧ mZ TZ M M1) := by
  refine CC.of rfl (Nat.le_of_ble_eq_true rfl) rfl (fun X C Tr => ?_)
  show V X 62 1072 0 [some (.ref z)] [] M
  have hF : mZ TZ M M := mZ.rf
  have hL : mZ [6] M M := mZ.rf
  refine s_aload_n C 1 dX6_init_0 rfl rfl ?_
  refine s_oi C 4 dX6_init_1 rfl oi_X6_1 rfl (by decide) (Nat.le_of_ble_eq_true rfl) ?_
  refine s_aload_n C 5 dX6_init_4 rfl rfl ?_
  refine s_newU C 8 61 1067 (100 + 10 * 0) dX6_init_5 rfl n_X6_7 (by first | decide | omega) (by omega) (by first | omega | (show _ + _ ≤ _; simp only [List.length_cons, List.length_nil]; omega)) (fun s M1 hns U2 => ?_)
  have hZ := U2.n hns hZ
  have hE0 := U2.n hns hE0
  have hns0 := hL.no hns
  have hL := hL.new U2 hns
  have hN1 := U2.s
  refine s_dup C 9 dX6_init_8 rfl rfl ?_
  have hF := hF.tr (hL.mono (fun t ht => by first | (rw [mem_TH] at ht; rw [mem_TZ]; omega) | (simp at ht; done) | (rw [mem_TZ]; simp at ht; omega)))
  refine s_invN C 12 59 1040 [.ref s, .ref z] dX6_init_9 rfl m_X6_9 (c_stateInit (k := 0) hN1 hE0) rfl rfl rfl ⟨by decide, by decide⟩ (Nat.le_of_ble_eq_true rfl) (by omega) (by omega) ?_
  rintro _ M3 ⟨rfl, hr9, hFi⟩
  dsimp only [Option.toList, List.cons_append, List.nil_append]
  have hZ := hFi.at hZ (by first | (simp; done) | (simp; omega) | (rw [mem_TH]; omega) | (rw [mem_TZ]; omega))
  have hE0 := hFi.at hE0 (by first | (simp; done) | (simp; omega) | (rw [mem_TH]; omega) | (rw [mem_TZ]; omega))
  have hs1 : sS G M3 0 s st0 := ⟨fun _ => 0, fun _ _ => rfl, fun _ _ => by show vp_nar .char 0 = 0; decide, hr9 _ _ _⟩
  have hF := hF.tr (hFi.mono (fun t ht => by first | (rw [mem_TH] at ht; rw [mem_TZ]; omega) | (simp at ht; done) | (rw [mem_TZ]; simp at ht; omega)))
  have hL : mZ [6] M3 M3 := mZ.rf
  refine s_putFU C 15 dX6_init_12 rfl p_X6_10 rfl hZ (by first | decide | omega) rfl rfl rfl (fs' := [.ref s, .null, .null, .null, .null, .null]) rfl (fun M4 U5 => ?_)
  have hE0 := U5.o hZ hE0 (by first | decide | omega)
  have hL := hL.put U5 hZ (by first | decide | (simp; done) | (simp; omega) | (simp [*]; done))
  have hZ := U5.s
  refine s_aload_n C 16 dX6_init_15 rfl rfl ?_
  refine s_newU C 19 58 1035 (100 + 10 * 1) dX6_init_16 rfl n_X6_7 (by first | decide | omega) (by omega) (by first | omega | (show _ + _ ≤ _; simp only [List.length_cons, List.length_nil]; omega)) (fun tr M6 hntr U7 => ?_)
  have hZ := U7.n hntr hZ
  have hE0 := U7.n hntr hE0
  have hntr0 := hL.no hntr
  have hL := hL.new U7 hntr
  have hN2 := U7.s
  refine s_dup C 20 dX6_init_19 rfl rfl ?_
  have hs1 := hs1.at hL (by first | (simp; done) | (simp; omega) | (rw [mem_TH]; omega) | (rw [mem_TZ]; omega)) (by first | (simp; done) | (simp; omega) | (rw [mem_TH]; omega) | (rw [mem_TZ]; omega)) (fun j hj => by first | (simp; done) | (simp; omega) | (rw [mem_TH]; omega) | (rw [mem_TZ]; omega))
  have hF := hF.tr (hL.mono (fun t ht => by first | (rw [mem_TH] at ht; rw [mem_TZ]; omega) | (simp at ht; done) | (rw [mem_TZ]; simp at ht; omega)))
  refine s_invN C 23 56 1000 [.ref tr, .ref z] dX6_init_20 rfl m_X6_9 (c_stateInit (k := 1) hN2 hE0) rfl rfl rfl ⟨by decide, by decide⟩ (Nat.le_of_ble_eq_true rfl) (by omega) (by omega) ?_
  rintro _ M8 ⟨rfl, hr9, hFi⟩
  dsimp only [Option.toList, List.cons_append, List.nil_append]
  have hZ := hFi.at hZ (by first | (simp; done) | (simp; omega) | (rw [mem_TH]; omega) | (rw [mem_TZ]; omega))
  have hE0 := hFi.at hE0 (by first | (simp; done) | (simp; omega) | (rw [mem_TH]; omega) | (rw [mem_TZ]; omega))
  have hs1 := hs1.at hFi (by first | (simp; done) | (simp; omega) | (rw [mem_TH]; omega) | (rw [mem_TZ]; omega)) (by first | (simp; done) | (simp; omega) | (rw [mem_TH]; omega) | (rw [mem_TZ]; omega)) (fun j hj => by first | (simp; done) | (simp; omega) | (rw [mem_TH]; omega) | (rw [mem_TZ]; omega))
  have ht1 : sS G M8 1 tr st0 := ⟨fun _ => 0, fun _ _ => rfl, fun _ _ => by show vp_nar .char 0 = 0; decide, hr9 _ _ _⟩
  have hF := hF.tr (hFi.mono (fun t ht => by first | (rw [mem_TH] at ht; rw [mem_TZ]; omega) | (simp at ht; done) | (rw [mem_TZ]; simp at ht; omega)))
  have hL : mZ [6] M8 M8 := mZ.rf
  refine s_putFU C 26 dX6_init_23 rfl p_X6_16 rfl hZ (by first | decide | omega) rfl rfl rfl (fs' := [.ref s, .ref tr, .null, .null, .null, .null]) rfl (fun M9 U10 => ?_)
  have hE0 := U10.o hZ hE0 (by first | decide | omega)
  have hL := hL.put U10 hZ (by first | decide | (simp; done) | (simp; omega) | (simp [*]; done))
  have hZ := U10.s
  refine s_aload_n C 27 dX6_init_26 rfl rfl ?_
  refine s_newU C 30 55 995 50 dX6_init_27 rfl n_X6_19 (by first | decide | omega) (by omega) (by first | omega | (show _ + _ ≤ _; simp only [List.length_cons, List.length_nil]; omega)) (fun h M11 hnh U12 => ?_)
  have hZ := U12.n hnh hZ
  have hE0 := U12.n hnh hE0
  have hnh0 := hL.no hnh
  have hL := hL.new U12 hnh
  have hN3 := U12.s
  refine s_dup C 31 dX6_init_30 rfl rfl ?_
  have hs1 := hs1.at hL (by first | (simp; done) | (simp; omega) | (rw [mem_TH]; omega) | (rw [mem_TZ]; omega)) (by first | (simp; done) | (simp; omega) | (rw [mem_TH]; omega) | (rw [mem_TZ]; omega)) (fun j hj => by first | (simp; done) | (simp; omega) | (rw [mem_TH]; omega) | (rw [mem_TZ]; omega))
  have ht1 := ht1.at hL (by first | (simp; done) | (simp; omega) | (rw [mem_TH]; omega) | (rw [mem_TZ]; omega)) (by first | (simp; done) | (simp; omega) | (rw [mem_TH]; omega) | (rw [mem_TZ]; omega)) (fun j hj => by first | (simp; done) | (simp; omega) | (rw [mem_TH]; omega) | (rw [mem_TZ]; omega))
  have hF := hF.tr (hL.mono (fun t ht => by first | (rw [mem_TH] at ht; rw [mem_TZ]; omega) | (simp at ht; done) | (rw [mem_TZ]; simp at ht; omega)))
  refine s_invI C 34 36 790 [.ref h, .ref z] dX6_init_31 rfl m_X6_21 (c_histInit (hs := hs) hN3 hE0) rfl rfl rfl ⟨by decide, by decide⟩ (Nat.le_of_ble_eq_true rfl) (by omega) (by omega) ?_
  rintro _ M13 ⟨rfl, hh1, hFi⟩
  dsimp only [Option.toList, List.cons_append, List.nil_append]
  have hZ := hFi.at hZ (by first | (simp; done) | (simp; omega) | (rw [mem_TH]; omega) | (rw [mem_TZ]; omega))
  have hE0 := hFi.at hE0 (by first | (simp; done) | (simp; omega) | (rw [mem_TH]; omega) | (rw [mem_TZ]; omega))
  have hs1 := hs1.at hFi (by first | (simp; done) | (simp; omega) | (rw [mem_TH]; omega) | (rw [mem_TZ]; omega)) (by first | (simp; done) | (simp; omega) | (rw [mem_TH]; omega) | (rw [mem_TZ]; omega)) (fun j hj => by first | (simp; done) | (simp; omega) | (rw [mem_TH]; omega) | (rw [mem_TZ]; omega))
  have ht1 := ht1.at hFi (by first | (simp; done) | (simp; omega) | (rw [mem_TH]; omega) | (rw [mem_TZ]; omega)) (by first | (simp; done) | (simp; omega) | (rw [mem_TH]; omega) | (rw [mem_TZ]; omega)) (fun j hj => by first | (simp; done) | (simp; omega) | (rw [mem_TH]; omega) | (rw [mem_TZ]; omega))
  have hF := hF.tr (hFi.mono (fun t ht => by first | (rw [mem_TH] at ht; rw [mem_TZ]; omega) | (simp at ht; done) | (rw [mem_TZ]; simp at ht; omega)))
  have hL : mZ [6] M13 M13 := mZ.rf
  refine s_putFU C 37 dX6_init_34 rfl p_X6_22 rfl hZ (by first | decide | omega) rfl rfl rfl (fs' := [.ref s, .ref tr, .ref h, .null, .null, .null]) rfl (fun M14 U15 => ?_)
  have hE0 := U15.o hZ hE0 (by first | decide | omega)
  have hL := hL.put U15 hZ (by first | decide | (simp; done) | (simp; omega) | (simp [*]; done))
  have hZ := U15.s
  refine s_aload_n C 38 dX6_init_37 rfl rfl ?_
  refine s_newU C 41 35 780 20 dX6_init_38 rfl n_X6_26 (by first | decide | omega) (by omega) (by first | omega | (show _ + _ ≤ _; simp only [List.length_cons, List.length_nil]; omega)) (fun tx M16 hntx U17 => ?_)
  have hZ := U17.n hntx hZ
  have hE0 := U17.n hntx hE0
  have hntx0 := hL.no hntx
  have hL := hL.new U17 hntx
  have hN4 := U17.s
  refine s_dup C 42 dX6_init_41 rfl rfl ?_
  have hs1 := hs1.at hL (by first | (simp; done) | (simp; omega) | (rw [mem_TH]; omega) | (rw [mem_TZ]; omega)) (by first | (simp; done) | (simp; omega) | (rw [mem_TH]; omega) | (rw [mem_TZ]; omega)) (fun j hj => by first | (simp; done) | (simp; omega) | (rw [mem_TH]; omega) | (rw [mem_TZ]; omega))
  have ht1 := ht1.at hL (by first | (simp; done) | (simp; omega) | (rw [mem_TH]; omega) | (rw [mem_TZ]; omega)) (by first | (simp; done) | (simp; omega) | (rw [mem_TH]; omega) | (rw [mem_TZ]; omega)) (fun j hj => by first | (simp; done) | (simp; omega) | (rw [mem_TH]; omega) | (rw [mem_TZ]; omega))
  have hh1 := hh1.at hL (by first | (simp; done) | (simp; omega) | (rw [mem_TH]; omega) | (rw [mem_TZ]; omega)) (by first | (simp; done) | (simp; omega) | (rw [mem_TH]; omega) | (rw [mem_TZ]; omega)) (by first | (simp; done) | (simp; omega) | (rw [mem_TH]; omega) | (rw [mem_TZ]; omega)) (fun t ht => by rw [mem_TH] at ht; first | (simp; done) | (simp; omega))
  have hF := hF.tr (hL.mono (fun t ht => by first | (rw [mem_TH] at ht; rw [mem_TZ]; omega) | (simp at ht; done) | (rw [mem_TZ]; simp at ht; omega)))
  refine s_invN C 45 34 700 [.ref tx, .ref z] dX6_init_42 rfl m_X6_28 (c_textInit hN4) rfl rfl rfl ⟨by decide, by decide⟩ (Nat.le_of_ble_eq_true rfl) (by omega) (by omega) ?_
  rintro _ M18 ⟨rfl, hx1, hFi⟩
  dsimp only [Option.toList, List.cons_append, List.nil_append]
  have hZ := hFi.at hZ (by first | (simp; done) | (simp; omega) | (rw [mem_TH]; omega) | (rw [mem_TZ]; omega))
  have hE0 := hFi.at hE0 (by first | (simp; done) | (simp; omega) | (rw [mem_TH]; omega) | (rw [mem_TZ]; omega))
  have hs1 := hs1.at hFi (by first | (simp; done) | (simp; omega) | (rw [mem_TH]; omega) | (rw [mem_TZ]; omega)) (by first | (simp; done) | (simp; omega) | (rw [mem_TH]; omega) | (rw [mem_TZ]; omega)) (fun j hj => by first | (simp; done) | (simp; omega) | (rw [mem_TH]; omega) | (rw [mem_TZ]; omega))
  have ht1 := ht1.at hFi (by first | (simp; done) | (simp; omega) | (rw [mem_TH]; omega) | (rw [mem_TZ]; omega)) (by first | (simp; done) | (simp; omega) | (rw [mem_TH]; omega) | (rw [mem_TZ]; omega)) (fun j hj => by first | (simp; done) | (simp; omega) | (rw [mem_TH]; omega) | (rw [mem_TZ]; omega))
  have hh1 := hh1.at hFi (by first | (simp; done) | (simp; omega) | (rw [mem_TH]; omega) | (rw [mem_TZ]; omega)) (by first | (simp; done) | (simp; omega) | (rw [mem_TH]; omega) | (rw [mem_TZ]; omega)) (by first | (simp; done) | (simp; omega) | (rw [mem_TH]; omega) | (rw [mem_TZ]; omega)) (fun t ht => by rw [mem_TH] at ht; first | (simp; done) | (simp; omega))
  have hF := hF.tr (hFi.mono (fun t ht => by first | (rw [mem_TH] at ht; rw [mem_TZ]; omega) | (simp at ht; done) | (rw [mem_TZ]; simp at ht; omega)))
  have hL : mZ [6] M18 M18 := mZ.rf
  refine s_putFU C 48 dX6_init_45 rfl p_X6_29 rfl hZ (by first | decide | omega) rfl rfl rfl (fs' := [.ref s, .ref tr, .ref h, .ref tx, .null, .null]) rfl (fun M19 U20 => ?_)
  have hE0 := U20.o hZ hE0 (by first | decide | omega)
  have hL := hL.put U20 hZ (by first | decide | (simp; done) | (simp; omega) | (simp [*]; done))
  have hZ := U20.s
  refine s_aload_n C 49 dX6_init_48 rfl rfl ?_
  refine s_newU C 52 33 695 30 dX6_init_49 rfl n_X6_33 (by first | decide | omega) (by omega) (by first | omega | (show _ + _ ≤ _; simp only [List.length_cons, List.length_nil]; omega)) (fun rk M21 hnrk U22 => ?_)
  have hZ := U22.n hnrk hZ
  have hE0 := U22.n hnrk hE0
  have hnrk0 := hL.no hnrk
  have hL := hL.new U22 hnrk
  have hN5 := U22.s
  refine s_dup C 53 dX6_init_52 rfl rfl ?_
  have hs1 := hs1.at hL (by first | (simp; done) | (simp; omega) | (rw [mem_TH]; omega) | (rw [mem_TZ]; omega)) (by first | (simp; done) | (simp; omega) | (rw [mem_TH]; omega) | (rw [mem_TZ]; omega)) (fun j hj => by first | (simp; done) | (simp; omega) | (rw [mem_TH]; omega) | (rw [mem_TZ]; omega))
  have ht1 := ht1.at hL (by first | (simp; done) | (simp; omega) | (rw [mem_TH]; omega) | (rw [mem_TZ]; omega)) (by first | (simp; done) | (simp; omega) | (rw [mem_TH]; omega) | (rw [mem_TZ]; omega)) (fun j hj => by first | (simp; done) | (simp; omega) | (rw [mem_TH]; omega) | (rw [mem_TZ]; omega))
  have hh1 := hh1.at hL (by first | (simp; done) | (simp; omega) | (rw [mem_TH]; omega) | (rw [mem_TZ]; omega)) (by first | (simp; done) | (simp; omega) | (rw [mem_TH]; omega) | (rw [mem_TZ]; omega)) (by first | (simp; done) | (simp; omega) | (rw [mem_TH]; omega) | (rw [mem_TZ]; omega)) (fun t ht => by rw [mem_TH] at ht; first | (simp; done) | (simp; omega))
  have hx1 := hx1.at hL (by first | (simp; done) | (simp; omega) | (rw [mem_TH]; omega) | (rw [mem_TZ]; omega)) (by first | (simp; done) | (simp; omega) | (rw [mem_TH]; omega) | (rw [mem_TZ]; omega))
  have hF := hF.tr (hL.mono (fun t ht => by first | (rw [mem_TH] at ht; rw [mem_TZ]; omega) | (simp at ht; done) | (rw [mem_TZ]; simp at ht; omega)))
  refine s_invN C 56 31 660 [.ref rk, .ref z] dX6_init_53 rfl m_X6_35 (c_rankInit hN5) rfl rfl rfl ⟨by decide, by decide⟩ (Nat.le_of_ble_eq_true rfl) (by omega) (by omega) ?_
  rintro _ M23 ⟨rfl, hk1, hFi⟩
  dsimp only [Option.toList, List.cons_append, List.nil_append]
  have hZ := hFi.at hZ (by first | (simp; done) | (simp; omega) | (rw [mem_TH]; omega) | (rw [mem_TZ]; omega))
  have hE0 := hFi.at hE0 (by first | (simp; done) | (simp; omega) | (rw [mem_TH]; omega) | (rw [mem_TZ]; omega))
  have hs1 := hs1.at hFi (by first | (simp; done) | (simp; omega) | (rw [mem_TH]; omega) | (rw [mem_TZ]; omega)) (by first | (simp; done) | (simp; omega) | (rw [mem_TH]; omega) | (rw [mem_TZ]; omega)) (fun j hj => by first | (simp; done) | (simp; omega) | (rw [mem_TH]; omega) | (rw [mem_TZ]; omega))
  have ht1 := ht1.at hFi (by first | (simp; done) | (simp; omega) | (rw [mem_TH]; omega) | (rw [mem_TZ]; omega)) (by first | (simp; done) | (simp; omega) | (rw [mem_TH]; omega) | (rw [mem_TZ]; omega)) (fun j hj => by first | (simp; done) | (simp; omega) | (rw [mem_TH]; omega) | (rw [mem_TZ]; omega))
  have hh1 := hh1.at hFi (by first | (simp; done) | (simp; omega) | (rw [mem_TH]; omega) | (rw [mem_TZ]; omega)) (by first | (simp; done) | (simp; omega) | (rw [mem_TH]; omega) | (rw [mem_TZ]; omega)) (by first | (simp; done) | (simp; omega) | (rw [mem_TH]; omega) | (rw [mem_TZ]; omega)) (fun t ht => by rw [mem_TH] at ht; first | (simp; done) | (simp; omega))
  have hx1 := hx1.at hFi (by first | (simp; done) | (simp; omega) | (rw [mem_TH]; omega) | (rw [mem_TZ]; omega)) (by first | (simp; done) | (simp; omega) | (rw [mem_TH]; omega) | (rw [mem_TZ]; omega))
  have hF := hF.tr (hFi.mono (fun t ht => by first | (rw [mem_TH] at ht; rw [mem_TZ]; omega) | (simp at ht; done) | (rw [mem_TZ]; simp at ht; omega)))
  have hL : mZ [6] M23 M23 := mZ.rf
  refine s_putFU C 59 dX6_init_56 rfl p_X6_36 rfl hZ (by first | decide | omega) rfl rfl rfl (fs' := [.ref s, .ref tr, .ref h, .ref tx, .ref rk, .null]) rfl (fun M24 U25 => ?_)
  have hE0 := U25.o hZ hE0 (by first | decide | omega)
  have hL := hL.put U25 hZ (by first | decide | (simp; done) | (simp; omega) | (simp [*]; done))
  have hZ := U25.s
  refine s_aload_n C 60 dX6_init_59 rfl rfl ?_
  refine s_newU C 63 17 416 40 dX6_init_60 rfl n_X6_40 (by first | decide | omega) (by omega) (by first | omega | (show _ + _ ≤ _; simp only [List.length_cons, List.length_nil]; omega)) (fun sy M26 hnsy U27 => ?_)
  have hZ := U27.n hnsy hZ
  have hE0 := U27.n hnsy hE0
  have hnsy0 := hL.no hnsy
  have hL := hL.new U27 hnsy
  have hN6 := U27.s
  refine s_dup C 64 dX6_init_63 rfl rfl ?_
  have hs1 := hs1.at hL (by first | (simp; done) | (simp; omega) | (rw [mem_TH]; omega) | (rw [mem_TZ]; omega)) (by first | (simp; done) | (simp; omega) | (rw [mem_TH]; omega) | (rw [mem_TZ]; omega)) (fun j hj => by first | (simp; done) | (simp; omega) | (rw [mem_TH]; omega) | (rw [mem_TZ]; omega))
  have ht1 := ht1.at hL (by first | (simp; done) | (simp; omega) | (rw [mem_TH]; omega) | (rw [mem_TZ]; omega)) (by first | (simp; done) | (simp; omega) | (rw [mem_TH]; omega) | (rw [mem_TZ]; omega)) (fun j hj => by first | (simp; done) | (simp; omega) | (rw [mem_TH]; omega) | (rw [mem_TZ]; omega))
  have hh1 := hh1.at hL (by first | (simp; done) | (simp; omega) | (rw [mem_TH]; omega) | (rw [mem_TZ]; omega)) (by first | (simp; done) | (simp; omega) | (rw [mem_TH]; omega) | (rw [mem_TZ]; omega)) (by first | (simp; done) | (simp; omega) | (rw [mem_TH]; omega) | (rw [mem_TZ]; omega)) (fun t ht => by rw [mem_TH] at ht; first | (simp; done) | (simp; omega))
  have hx1 := hx1.at hL (by first | (simp; done) | (simp; omega) | (rw [mem_TH]; omega) | (rw [mem_TZ]; omega)) (by first | (simp; done) | (simp; omega) | (rw [mem_TH]; omega) | (rw [mem_TZ]; omega))
  have hk1 := hk1.at hL (by first | (simp; done) | (simp; omega) | (rw [mem_TH]; omega) | (rw [mem_TZ]; omega)) (by first | (simp; done) | (simp; omega) | (rw [mem_TH]; omega) | (rw [mem_TZ]; omega)) (by first | (simp; done) | (simp; omega) | (rw [mem_TH]; omega) | (rw [mem_TZ]; omega))
  have hF := hF.tr (hL.mono (fun t ht => by first | (rw [mem_TH] at ht; rw [mem_TZ]; omega) | (simp at ht; done) | (rw [mem_TZ]; simp at ht; omega)))
  refine s_invN C 67 0 0 [.ref sy, .ref z] dX6_init_64 rfl m_X6_42 (c_studyInit hN6) rfl rfl rfl ⟨by decide, by decide⟩ (Nat.le_of_ble_eq_true rfl) (by omega) (by omega) ?_
  rintro _ M28 ⟨rfl, hy1, hFi⟩
  dsimp only [Option.toList, List.cons_append, List.nil_append]
  have hZ := hFi.at hZ (by first | (simp; done) | (simp; omega) | (rw [mem_TH]; omega) | (rw [mem_TZ]; omega))
  have hE0 := hFi.at hE0 (by first | (simp; done) | (simp; omega) | (rw [mem_TH]; omega) | (rw [mem_TZ]; omega))
  have hs1 := hs1.at hFi (by first | (simp; done) | (simp; omega) | (rw [mem_TH]; omega) | (rw [mem_TZ]; omega)) (by first | (simp; done) | (simp; omega) | (rw [mem_TH]; omega) | (rw [mem_TZ]; omega)) (fun j hj => by first | (simp; done) | (simp; omega) | (rw [mem_TH]; omega) | (rw [mem_TZ]; omega))
  have ht1 := ht1.at hFi (by first | (simp; done) | (simp; omega) | (rw [mem_TH]; omega) | (rw [mem_TZ]; omega)) (by first | (simp; done) | (simp; omega) | (rw [mem_TH]; omega) | (rw [mem_TZ]; omega)) (fun j hj => by first | (simp; done) | (simp; omega) | (rw [mem_TH]; omega) | (rw [mem_TZ]; omega))
  have hh1 := hh1.at hFi (by first | (simp; done) | (simp; omega) | (rw [mem_TH]; omega) | (rw [mem_TZ]; omega)) (by first | (simp; done) | (simp; omega) | (rw [mem_TH]; omega) | (rw [mem_TZ]; omega)) (by first | (simp; done) | (simp; omega) | (rw [mem_TH]; omega) | (rw [mem_TZ]; omega)) (fun t ht => by rw [mem_TH] at ht; first | (simp; done) | (simp; omega))
  have hx1 := hx1.at hFi (by first | (simp; done) | (simp; omega) | (rw [mem_TH]; omega) | (rw [mem_TZ]; omega)) (by first | (simp; done) | (simp; omega) | (rw [mem_TH]; omega) | (rw [mem_TZ]; omega))
  have hk1 := hk1.at hFi (by first | (simp; done) | (simp; omega) | (rw [mem_TH]; omega) | (rw [mem_TZ]; omega)) (by first | (simp; done) | (simp; omega) | (rw [mem_TH]; omega) | (rw [mem_TZ]; omega)) (by first | (simp; done) | (simp; omega) | (rw [mem_TH]; omega) | (rw [mem_TZ]; omega))
  have hF := hF.tr (hFi.mono (fun t ht => by first | (rw [mem_TH] at ht; rw [mem_TZ]; omega) | (simp at ht; done) | (rw [mem_TZ]; simp at ht; omega)))
  have hL : mZ [6] M28 M28 := mZ.rf
  refine s_putFU C 70 dX6_init_67 rfl p_X6_43 rfl hZ (by first | decide | omega) rfl rfl rfl (fs' := [.ref s, .ref tr, .ref h, .ref tx, .ref rk, .ref sy]) rfl (fun M29 U30 => ?_)
  have hE0 := U30.o hZ hE0 (by first | decide | omega)
  have hL := hL.put U30 hZ (by first | decide | (simp; done) | (simp; omega) | (simp [*]; done))
  have hZ := U30.s
  exact s_vret C dX6_init_70 Tr rfl ⟨rfl, ⟨_, _, _, _, _, _, _, s, tr, h, tx, rk, sy, hZ, hs1.at hL (by first | (simp; done) | (simp; omega) | (rw [mem_TH]; omega) | (rw [mem_TZ]; omega)) (by first | (simp; done) | (simp; omega) | (rw [mem_TH]; omega) | (rw [mem_TZ]; omega)) (fun j hj => by first | (simp; done) | (simp; omega) | (rw [mem_TH]; omega) | (rw [mem_TZ]; omega)), ⟨_, ht1.at hL (by first | (simp; done) | (simp; omega) | (rw [mem_TH]; omega) | (rw [mem_TZ]; omega)) (by first | (simp; done) | (simp; omega) | (rw [mem_TH]; omega) | (rw [mem_TZ]; omega)) (fun j hj => by first | (simp; done) | (simp; omega) | (rw [mem_TH]; omega) | (rw [mem_TZ]; omega))⟩, hh1.at hL (by first | (simp; done) | (simp; omega) | (rw [mem_TH]; omega) | (rw [mem_TZ]; omega)) (by first | (simp; done) | (simp; omega) | (rw [mem_TH]; omega) | (rw [mem_TZ]; omega)) (by first | (simp; done) | (simp; omega) | (rw [mem_TH]; omega) | (rw [mem_TZ]; omega)) (fun t ht => by rw [mem_TH] at ht; first | (simp; done) | (simp; omega)), ⟨_, _, _, _, _, hx1.at hL (by first | (simp; done) | (simp; omega) | (rw [mem_TH]; omega) | (rw [mem_TZ]; omega)) (by first | (simp; done) | (simp; omega) | (rw [mem_TH]; omega) | (rw [mem_TZ]; omega))⟩, hk1.at hL (by first | (simp; done) | (simp; omega) | (rw [mem_TH]; omega) | (rw [mem_TZ]; omega)) (by first | (simp; done) | (simp; omega) | (rw [mem_TH]; omega) | (rw [mem_TZ]; omega)) (by first | (simp; done) | (simp; omega) | (rw [mem_TH]; omega) | (rw [mem_TZ]; omega)), ⟨_, hy1.at hL (by first | (simp; done) | (simp; omega) | (rw [mem_TH]; omega) | (rw [mem_TZ]; omega)) (by first | (simp; done) | (simp; omega) | (rw [mem_TH]; omega) | (rw [mem_TZ]; omega)) (by first | (simp; done) | (simp; omega) | (rw [mem_TH]; omega) | (rw [mem_TZ]; omega))⟩, fun k hk => absurd hk (Nat.not_lt_zero _)⟩, hF.tr (hL.mono (fun t ht => by first | (rw [mem_TH] at ht; rw [mem_TZ]; omega) | (simp at ht; done) | (rw [mem_TZ]; simp at ht; omega)))⟩
