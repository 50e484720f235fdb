set_option maxRecDepth 20000 in
theorem cw_Jx4a65c : ∀ w ∈ u_ws RJx4a65c TJx4a65c 3, w ∈ BIG := by
  intro w hw
  obtain ⟨k, hk, rfl⟩ := List.mem_map.mp hw
  have hk := List.mem_range.mp hk
  match k, hk with
  | 0, _ => exact bw 71 (by decide +kernel) rfl
  | 1, _ => exact bw 67 (by decide +kernel) rfl
  | 2, _ => exact bw 69 (by decide +kernel) rfl
set_option maxRecDepth 20000 in
theorem cw_X0 : ∀ w ∈ u_ws RX0 TX0 3, w ∈ BIG := by
  intro w hw
  obtain ⟨k, hk, rfl⟩ := List.mem_map.mp hw
  have hk := List.mem_range.mp hk
  match k, hk with
  | 0, _ => exact bw 111 (by decide +kernel) rfl
  | 1, _ => exact bw 113 (by decide +kernel) rfl
  | 2, _ => exact bw 115 (by decide +kernel) rfl
set_option maxRecDepth 20000 in
theorem cw_X1 : ∀ w ∈ u_ws RX1 TX1 3, w ∈ BIG := by
  intro w hw
  obtain ⟨k, hk, rfl⟩ := List.mem_map.mp hw
  have hk := List.mem_range.mp hk
  match k, hk with
  | 0, _ => exact bw 155 (by decide +kernel) rfl
  | 1, _ => exact bw 157 (by decide +kernel) rfl
  | 2, _ => exact bw 159 (by decide +kernel) rfl
set_option maxRecDepth 20000 in
theorem cw_X2 : ∀ w ∈ u_ws RX2 TX2 5, w ∈ BIG := by
  intro w hw
  obtain ⟨k, hk, rfl⟩ := List.mem_map.mp hw
  have hk := List.mem_range.mp hk
  match k, hk with
  | 0, _ => exact bw 87 (by decide +kernel) rfl
  | 1, _ => exact bw 89 (by decide +kernel) rfl
  | 2, _ => exact bw 91 (by decide +kernel) rfl
  | 3, _ => exact bw 93 (by decide +kernel) rfl
  | 4, _ => exact bw 95 (by decide +kernel) rfl
set_option maxRecDepth 20000 in
theorem cw_X3 : ∀ w ∈ u_ws RX3 TX3 5, w ∈ BIG := by
  intro w hw
  obtain ⟨k, hk, rfl⟩ := List.mem_map.mp hw
  have hk := List.mem_range.mp hk
  match k, hk with
  | 0, _ => exact bw 180 (by decide +kernel) rfl
  | 1, _ => exact bw 182 (by decide +kernel) rfl
  | 2, _ => exact bw 184 (by decide +kernel) rfl
  | 3, _ => exact bw 186 (by decide +kernel) rfl
  | 4, _ => exact bw 188 (by decide +kernel) rfl
set_option maxRecDepth 20000 in
theorem cw_X4 : ∀ w ∈ u_ws RX4 TX4 7, w ∈ BIG := by
  intro w hw
  obtain ⟨k, hk, rfl⟩ := List.mem_map.mp hw
  have hk := List.mem_range.mp hk
  match k, hk with
  | 0, _ => exact bw 130 (by decide +kernel) rfl
  | 1, _ => exact bw 132 (by decide +kernel) rfl
  | 2, _ => exact bw 134 (by decide +kernel) rfl
  | 3, _ => exact bw 136 (by decide +kernel) rfl
  | 4, _ => exact bw 138 (by decide +kernel) rfl
  | 5, _ => exact bw 140 (by decide +kernel) rfl
  | 6, _ => exact bw 142 (by decide +kernel) rfl
set_option maxRecDepth 20000 in
theorem cw_X5 : ∀ w ∈ u_ws RX5 TX5 3, w ∈ BIG := by
  intro w hw
  obtain ⟨k, hk, rfl⟩ := List.mem_map.mp hw
  have hk := List.mem_range.mp hk
  match k, hk with
  | 0, _ => exact bw 282 (by decide +kernel) rfl
  | 1, _ => exact bw 284 (by decide +kernel) rfl
  | 2, _ => exact bw 286 (by decide +kernel) rfl
set_option maxRecDepth 20000 in
theorem cw_X6 : ∀ w ∈ u_ws RX6 TX6 6, w ∈ BIG := by
  intro w hw
  obtain ⟨k, hk, rfl⟩ := List.mem_map.mp hw
  have hk := List.mem_range.mp hk
  match k, hk with
  | 0, _ => exact bw 197 (by decide +kernel) rfl
  | 1, _ => exact bw 199 (by decide +kernel) rfl
  | 2, _ => exact bw 201 (by decide +kernel) rfl
  | 3, _ => exact bw 203 (by decide +kernel) rfl
  | 4, _ => exact bw 205 (by decide +kernel) rfl
  | 5, _ => exact bw 207 (by decide +kernel) rfl
set_option maxRecDepth 20000 in
theorem f_Jx4a65c_9 : mF RJx4a65c 9 0 1 := ⟨_, rfl, by decide, cw_Jx4a65c, "java/util/ArrayList", bw 62 (by decide +kernel) rfl, Or.inl rfl⟩
set_option maxRecDepth 20000 in
theorem p_Jx4a65c_9 : mFp RJx4a65c 9 0 1 (.array (.object "java/lang/Object")) false := ⟨_, tyJx4a65c, rfl, by decide, cw_Jx4a65c, ⟨"java/util/ArrayList", bw 62 (by decide +kernel) rfl, Or.inl rfl⟩, tyJx4a65c_ok, nmJx4a65c, rfl, rfl, fun h => by first | rfl | exact absurd h (by decide)⟩
set_option maxRecDepth 20000 in
theorem f_Jx4a65c_48 : mF RJx4a65c 48 0 2 := ⟨_, rfl, by decide, cw_Jx4a65c, "java/util/ArrayList", bw 63 (by decide +kernel) rfl, Or.inl rfl⟩
set_option maxRecDepth 20000 in
theorem p_Jx4a65c_48 : mFp RJx4a65c 48 0 2 (.int) false := ⟨_, tyJx4a65c, rfl, by decide, cw_Jx4a65c, ⟨"java/util/ArrayList", bw 63 (by decide +kernel) rfl, Or.inl rfl⟩, tyJx4a65c_ok, nmJx4a65c, rfl, rfl, fun h => by first | rfl | exact absurd h (by decide)⟩
set_option maxRecDepth 20000 in
theorem f_Jx4a65c_63 : mF RJx4a65c 63 0 0 := ⟨_, rfl, by decide, cw_Jx4a65c, "java/util/ArrayList", bw 65 (by decide +kernel) rfl, Or.inr (bw 66 (by decide +kernel) rfl)⟩
set_option maxRecDepth 20000 in
theorem p_Jx4a65c_63 : mFp RJx4a65c 63 0 0 (.int) false := ⟨_, tyJx4a65c, rfl, by decide, cw_Jx4a65c, ⟨"java/util/ArrayList", bw 65 (by decide +kernel) rfl, Or.inr (bw 66 (by decide +kernel) rfl)⟩, tyJx4a65c_ok, nmJx4a65c, rfl, rfl, fun h => by first | rfl | exact absurd h (by decide)⟩
set_option maxRecDepth 20000 in
theorem p_Jxc12de_7 : mFp RJxc12de 7 0 0 (.int) false := ⟨_, tyJx4a65c, rfl, by decide, cw_Jx4a65c, ⟨"java/util/AbstractList", bw 64 (by decide +kernel) rfl, Or.inl rfl⟩, tyJx4a65c_ok, nmJx4a65c, rfl, rfl, fun h => by first | rfl | exact absurd h (by decide)⟩
set_option maxRecDepth 20000 in
theorem f_X0_11 : mF RX0 11 1 0 := ⟨_, rfl, by decide, cw_X0, "TitleFinder$History", bw 108 (by decide +kernel) rfl, Or.inl rfl⟩
set_option maxRecDepth 20000 in
theorem p_X0_11 : mFp RX0 11 1 0 (.array (.object "TitleFinder$State")) true := ⟨_, tyX0, rfl, by decide, cw_X0, ⟨"TitleFinder$History", bw 108 (by decide +kernel) rfl, Or.inl rfl⟩, tyX0_ok, nmX0, rfl, rfl, fun h => by first | rfl | exact absurd h (by decide)⟩
set_option maxRecDepth 20000 in
theorem f_X0_18 : mF RX0 18 1 1 := ⟨_, rfl, by decide, cw_X0, "TitleFinder$History", bw 109 (by decide +kernel) rfl, Or.inl rfl⟩
set_option maxRecDepth 20000 in
theorem p_X0_18 : mFp RX0 18 1 1 (.int) false := ⟨_, tyX0, rfl, by decide, cw_X0, ⟨"TitleFinder$History", bw 109 (by decide +kernel) rfl, Or.inl rfl⟩, tyX0_ok, nmX0, rfl, rfl, fun h => by first | rfl | exact absurd h (by decide)⟩
set_option maxRecDepth 20000 in
theorem f_X0_26 : mF RX0 26 1 2 := ⟨_, rfl, by decide, cw_X0, "TitleFinder$History", bw 110 (by decide +kernel) rfl, Or.inl rfl⟩
set_option maxRecDepth 20000 in
theorem p_X0_26 : mFp RX0 26 1 2 (.int) false := ⟨_, tyX0, rfl, by decide, cw_X0, ⟨"TitleFinder$History", bw 110 (by decide +kernel) rfl, Or.inl rfl⟩, tyX0_ok, nmX0, rfl, rfl, fun h => by first | rfl | exact absurd h (by decide)⟩
set_option maxRecDepth 20000 in
theorem f_X1_9 : mF RX1 9 2 0 := ⟨_, rfl, by decide, cw_X1, "TitleFinder$Ranking", bw 151 (by decide +kernel) rfl, Or.inl rfl⟩
set_option maxRecDepth 20000 in
theorem p_X1_9 : mFp RX1 9 2 0 (.array .int) true := ⟨_, tyX1, rfl, by decide, cw_X1, ⟨"TitleFinder$Ranking", bw 151 (by decide +kernel) rfl, Or.inl rfl⟩, tyX1_ok, nmX1, rfl, rfl, fun h => by first | rfl | exact absurd h (by decide)⟩
set_option maxRecDepth 20000 in
theorem f_X1_15 : mF RX1 15 2 1 := ⟨_, rfl, by decide, cw_X1, "TitleFinder$Ranking", bw 152 (by decide +kernel) rfl, Or.inl rfl⟩
set_option maxRecDepth 20000 in
theorem p_X1_15 : mFp RX1 15 2 1 (.array .int) true := ⟨_, tyX1, rfl, by decide, cw_X1, ⟨"TitleFinder$Ranking", bw 152 (by decide +kernel) rfl, Or.inl rfl⟩, tyX1_ok, nmX1, rfl, rfl, fun h => by first | rfl | exact absurd h (by decide)⟩
set_option maxRecDepth 20000 in
theorem f_X1_18 : mF RX1 18 2 2 := ⟨_, rfl, by decide, cw_X1, "TitleFinder$Ranking", bw 153 (by decide +kernel) rfl, Or.inl rfl⟩
set_option maxRecDepth 20000 in
theorem p_X1_18 : mFp RX1 18 2 2 (.int) false := ⟨_, tyX1, rfl, by decide, cw_X1, ⟨"TitleFinder$Ranking", bw 153 (by decide +kernel) rfl, Or.inl rfl⟩, tyX1_ok, nmX1, rfl, rfl, fun h => by first | rfl | exact absurd h (by decide)⟩
set_option maxRecDepth 20000 in
theorem f_X1_22 : mF RX1 22 3 0 := ⟨_, rfl, by decide, cw_X2, "TitleFinder$State", bw 75 (by decide +kernel) rfl, Or.inl rfl⟩
set_option maxRecDepth 20000 in
theorem f_X2_12 : mF RX2 12 3 0 := ⟨_, rfl, by decide, cw_X2, "TitleFinder$State", bw 74 (by decide +kernel) rfl, Or.inl rfl⟩
set_option maxRecDepth 20000 in
theorem p_X2_12 : mFp RX2 12 3 0 (.object "java/util/ArrayList") true := ⟨_, tyX2, rfl, by decide, cw_X2, ⟨"TitleFinder$State", bw 74 (by decide +kernel) rfl, Or.inl rfl⟩, tyX2_ok, nmX2, rfl, rfl, fun h => by first | rfl | exact absurd h (by decide)⟩
set_option maxRecDepth 20000 in
theorem f_X2_18 : mF RX2 18 3 1 := ⟨_, rfl, by decide, cw_X2, "TitleFinder$State", bw 78 (by decide +kernel) rfl, Or.inl rfl⟩
set_option maxRecDepth 20000 in
theorem p_X2_18 : mFp RX2 18 3 1 (.array .char) true := ⟨_, tyX2, rfl, by decide, cw_X2, ⟨"TitleFinder$State", bw 78 (by decide +kernel) rfl, Or.inl rfl⟩, tyX2_ok, nmX2, rfl, rfl, fun h => by first | rfl | exact absurd h (by decide)⟩
set_option maxRecDepth 20000 in
theorem f_X2_39 : mF RX2 39 3 2 := ⟨_, rfl, by decide, cw_X2, "TitleFinder$State", bw 80 (by decide +kernel) rfl, Or.inl rfl⟩
set_option maxRecDepth 20000 in
theorem p_X2_39 : mFp RX2 39 3 2 (.int) false := ⟨_, tyX2, rfl, by decide, cw_X2, ⟨"TitleFinder$State", bw 80 (by decide +kernel) rfl, Or.inl rfl⟩, tyX2_ok, nmX2, rfl, rfl, fun h => by first | rfl | exact absurd h (by decide)⟩
set_option maxRecDepth 20000 in
theorem f_X2_43 : mF RX2 43 3 3 := ⟨_, rfl, by decide, cw_X2, "TitleFinder$State", bw 83 (by decide +kernel) rfl, Or.inl rfl⟩
set_option maxRecDepth 20000 in
theorem p_X2_43 : mFp RX2 43 3 3 (.int) false := ⟨_, tyX2, rfl, by decide, cw_X2, ⟨"TitleFinder$State", bw 83 (by decide +kernel) rfl, Or.inl rfl⟩, tyX2_ok, nmX2, rfl, rfl, fun h => by first | rfl | exact absurd h (by decide)⟩
set_option maxRecDepth 20000 in
theorem f_X2_46 : mF RX2 46 3 4 := ⟨_, rfl, by decide, cw_X2, "TitleFinder$State", bw 85 (by decide +kernel) rfl, Or.inl rfl⟩
set_option maxRecDepth 20000 in
theorem p_X2_46 : mFp RX2 46 3 4 (.int) false := ⟨_, tyX2, rfl, by decide, cw_X2, ⟨"TitleFinder$State", bw 85 (by decide +kernel) rfl, Or.inl rfl⟩, tyX2_ok, nmX2, rfl, rfl, fun h => by first | rfl | exact absurd h (by decide)⟩
set_option maxRecDepth 20000 in
theorem f_X2_64 : mF RX2 64 6 2 := ⟨_, rfl, by decide, cw_X5, "TitleFinder$Title", bw 280 (by decide +kernel) rfl, Or.inl rfl⟩
set_option maxRecDepth 20000 in
theorem f_X2_67 : mF RX2 67 6 0 := ⟨_, rfl, by decide, cw_X5, "TitleFinder$Title", bw 275 (by decide +kernel) rfl, Or.inl rfl⟩
set_option maxRecDepth 20000 in
theorem f_X3_11 : mF RX3 11 4 0 := ⟨_, rfl, by decide, cw_X3, "TitleFinder$Study", bw 171 (by decide +kernel) rfl, Or.inl rfl⟩
set_option maxRecDepth 20000 in
theorem p_X3_11 : mFp RX3 11 4 0 (.array (.array .int)) true := ⟨_, tyX3, rfl, by decide, cw_X3, ⟨"TitleFinder$Study", bw 171 (by decide +kernel) rfl, Or.inl rfl⟩, tyX3_ok, nmX3, rfl, rfl, fun h => by first | rfl | exact absurd h (by decide)⟩
set_option maxRecDepth 20000 in
theorem p_X3_16 : mFp RX3 16 4 1 (.int) false := ⟨_, tyX3, rfl, by decide, cw_X3, ⟨"TitleFinder$Study", bw 172 (by decide +kernel) rfl, Or.inl rfl⟩, tyX3_ok, nmX3, rfl, rfl, fun h => by first | rfl | exact absurd h (by decide)⟩
set_option maxRecDepth 20000 in
theorem f_X3_20 : mF RX3 20 4 2 := ⟨_, rfl, by decide, cw_X3, "TitleFinder$Study", bw 174 (by decide +kernel) rfl, Or.inl rfl⟩
set_option maxRecDepth 20000 in
theorem p_X3_20 : mFp RX3 20 4 2 (.int) false := ⟨_, tyX3, rfl, by decide, cw_X3, ⟨"TitleFinder$Study", bw 174 (by decide +kernel) rfl, Or.inl rfl⟩, tyX3_ok, nmX3, rfl, rfl, fun h => by first | rfl | exact absurd h (by decide)⟩
set_option maxRecDepth 20000 in
theorem p_X3_23 : mFp RX3 23 4 3 (.int) false := ⟨_, tyX3, rfl, by decide, cw_X3, ⟨"TitleFinder$Study", bw 176 (by decide +kernel) rfl, Or.inl rfl⟩, tyX3_ok, nmX3, rfl, rfl, fun h => by first | rfl | exact absurd h (by decide)⟩
set_option maxRecDepth 20000 in
theorem f_X3_26 : mF RX3 26 4 4 := ⟨_, rfl, by decide, cw_X3, "TitleFinder$Study", bw 178 (by decide +kernel) rfl, Or.inl rfl⟩
set_option maxRecDepth 20000 in
theorem p_X3_26 : mFp RX3 26 4 4 (.int) false := ⟨_, tyX3, rfl, by decide, cw_X3, ⟨"TitleFinder$Study", bw 178 (by decide +kernel) rfl, Or.inl rfl⟩, tyX3_ok, nmX3, rfl, rfl, fun h => by first | rfl | exact absurd h (by decide)⟩
set_option maxRecDepth 20000 in
theorem f_X3_35 : mF RX3 35 3 0 := ⟨_, rfl, by decide, cw_X2, "TitleFinder$State", bw 76 (by decide +kernel) rfl, Or.inl rfl⟩
set_option maxRecDepth 20000 in
theorem f_X3_47 : mF RX3 47 3 3 := ⟨_, rfl, by decide, cw_X2, "TitleFinder$State", bw 82 (by decide +kernel) rfl, Or.inl rfl⟩
set_option maxRecDepth 20000 in
theorem f_X4_9 : mF RX4 9 5 0 := ⟨_, rfl, by decide, cw_X4, "TitleFinder$Text", bw 124 (by decide +kernel) rfl, Or.inl rfl⟩
set_option maxRecDepth 20000 in
theorem p_X4_9 : mFp RX4 9 5 0 (.array .char) true := ⟨_, tyX4, rfl, by decide, cw_X4, ⟨"TitleFinder$Text", bw 124 (by decide +kernel) rfl, Or.inl rfl⟩, tyX4_ok, nmX4, rfl, rfl, fun h => by first | rfl | exact absurd h (by decide)⟩
set_option maxRecDepth 20000 in
theorem f_X4_15 : mF RX4 15 5 1 := ⟨_, rfl, by decide, cw_X4, "TitleFinder$Text", bw 125 (by decide +kernel) rfl, Or.inl rfl⟩
set_option maxRecDepth 20000 in
theorem p_X4_15 : mFp RX4 15 5 1 (.int) false := ⟨_, tyX4, rfl, by decide, cw_X4, ⟨"TitleFinder$Text", bw 125 (by decide +kernel) rfl, Or.inl rfl⟩, tyX4_ok, nmX4, rfl, rfl, fun h => by first | rfl | exact absurd h (by decide)⟩
set_option maxRecDepth 20000 in
theorem f_X4_19 : mF RX4 19 5 2 := ⟨_, rfl, by decide, cw_X4, "TitleFinder$Text", bw 127 (by decide +kernel) rfl, Or.inl rfl⟩
set_option maxRecDepth 20000 in
theorem p_X4_19 : mFp RX4 19 5 2 (.int) false := ⟨_, tyX4, rfl, by decide, cw_X4, ⟨"TitleFinder$Text", bw 127 (by decide +kernel) rfl, Or.inl rfl⟩, tyX4_ok, nmX4, rfl, rfl, fun h => by first | rfl | exact absurd h (by decide)⟩
set_option maxRecDepth 20000 in
theorem f_X4_52 : mF RX4 52 5 5 := ⟨_, rfl, by decide, cw_X4, "TitleFinder$Text", bw 128 (by decide +kernel) rfl, Or.inl rfl⟩
set_option maxRecDepth 20000 in
theorem p_X4_52 : mFp RX4 52 5 5 (.int) false := ⟨_, tyX4, rfl, by decide, cw_X4, ⟨"TitleFinder$Text", bw 128 (by decide +kernel) rfl, Or.inl rfl⟩, tyX4_ok, nmX4, rfl, rfl, fun h => by first | rfl | exact absurd h (by decide)⟩
set_option maxRecDepth 20000 in
theorem f_X4_59 : mF RX4 59 5 6 := ⟨_, rfl, by decide, cw_X4, "TitleFinder$Text", bw 129 (by decide +kernel) rfl, Or.inl rfl⟩
set_option maxRecDepth 20000 in
theorem p_X4_59 : mFp RX4 59 5 6 (.int) false := ⟨_, tyX4, rfl, by decide, cw_X4, ⟨"TitleFinder$Text", bw 129 (by decide +kernel) rfl, Or.inl rfl⟩, tyX4_ok, nmX4, rfl, rfl, fun h => by first | rfl | exact absurd h (by decide)⟩
