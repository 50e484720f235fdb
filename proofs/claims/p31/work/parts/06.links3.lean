set_option maxRecDepth 20000 in
theorem f_X5_9 : mF RX5 9 6 0 := ⟨_, rfl, by decide, cw_X5, "TitleFinder$Title", bw 274 (by decide +kernel) rfl, Or.inl rfl⟩
set_option maxRecDepth 20000 in
theorem p_X5_9 : mFp RX5 9 6 0 (.array .char) true := ⟨_, tyX5, rfl, by decide, cw_X5, ⟨"TitleFinder$Title", bw 274 (by decide +kernel) rfl, Or.inl rfl⟩, tyX5_ok, nmX5, rfl, rfl, fun h => by first | rfl | exact absurd h (by decide)⟩
set_option maxRecDepth 20000 in
theorem f_X5_15 : mF RX5 15 6 1 := ⟨_, rfl, by decide, cw_X5, "TitleFinder$Title", bw 277 (by decide +kernel) rfl, Or.inl rfl⟩
set_option maxRecDepth 20000 in
theorem p_X5_15 : mFp RX5 15 6 1 (.array .char) true := ⟨_, tyX5, rfl, by decide, cw_X5, ⟨"TitleFinder$Title", bw 277 (by decide +kernel) rfl, Or.inl rfl⟩, tyX5_ok, nmX5, rfl, rfl, fun h => by first | rfl | exact absurd h (by decide)⟩
set_option maxRecDepth 20000 in
theorem f_X5_18 : mF RX5 18 6 2 := ⟨_, rfl, by decide, cw_X5, "TitleFinder$Title", bw 279 (by decide +kernel) rfl, Or.inl rfl⟩
set_option maxRecDepth 20000 in
theorem p_X5_18 : mFp RX5 18 6 2 (.int) true := ⟨_, tyX5, rfl, by decide, cw_X5, ⟨"TitleFinder$Title", bw 279 (by decide +kernel) rfl, Or.inl rfl⟩, tyX5_ok, nmX5, rfl, rfl, fun h => by first | rfl | exact absurd h (by decide)⟩
set_option maxRecDepth 20000 in
theorem f_X6_10 : mF RX6 10 7 0 := ⟨_, rfl, by decide, cw_X6, "TitleFinder", bw 191 (by decide +kernel) rfl, Or.inl rfl⟩
set_option maxRecDepth 20000 in
theorem p_X6_10 : mFp RX6 10 7 0 (.object "TitleFinder$State") true := ⟨_, tyX6, rfl, by decide, cw_X6, ⟨"TitleFinder", bw 191 (by decide +kernel) rfl, Or.inl rfl⟩, tyX6_ok, nmX6, rfl, rfl, fun h => by first | rfl | exact absurd h (by decide)⟩
set_option maxRecDepth 20000 in
theorem f_X6_16 : mF RX6 16 7 1 := ⟨_, rfl, by decide, cw_X6, "TitleFinder", bw 192 (by decide +kernel) rfl, Or.inl rfl⟩
set_option maxRecDepth 20000 in
theorem p_X6_16 : mFp RX6 16 7 1 (.object "TitleFinder$State") true := ⟨_, tyX6, rfl, by decide, cw_X6, ⟨"TitleFinder", bw 192 (by decide +kernel) rfl, Or.inl rfl⟩, tyX6_ok, nmX6, rfl, rfl, fun h => by first | rfl | exact absurd h (by decide)⟩
set_option maxRecDepth 20000 in
theorem f_X6_22 : mF RX6 22 7 2 := ⟨_, rfl, by decide, cw_X6, "TitleFinder", bw 193 (by decide +kernel) rfl, Or.inl rfl⟩
set_option maxRecDepth 20000 in
theorem p_X6_22 : mFp RX6 22 7 2 (.object "TitleFinder$History") true := ⟨_, tyX6, rfl, by decide, cw_X6, ⟨"TitleFinder", bw 193 (by decide +kernel) rfl, Or.inl rfl⟩, tyX6_ok, nmX6, rfl, rfl, fun h => by first | rfl | exact absurd h (by decide)⟩
set_option maxRecDepth 20000 in
theorem f_X6_29 : mF RX6 29 7 3 := ⟨_, rfl, by decide, cw_X6, "TitleFinder", bw 194 (by decide +kernel) rfl, Or.inl rfl⟩
set_option maxRecDepth 20000 in
theorem p_X6_29 : mFp RX6 29 7 3 (.object "TitleFinder$Text") true := ⟨_, tyX6, rfl, by decide, cw_X6, ⟨"TitleFinder", bw 194 (by decide +kernel) rfl, Or.inl rfl⟩, tyX6_ok, nmX6, rfl, rfl, fun h => by first | rfl | exact absurd h (by decide)⟩
set_option maxRecDepth 20000 in
theorem f_X6_36 : mF RX6 36 7 4 := ⟨_, rfl, by decide, cw_X6, "TitleFinder", bw 195 (by decide +kernel) rfl, Or.inl rfl⟩
set_option maxRecDepth 20000 in
theorem p_X6_36 : mFp RX6 36 7 4 (.object "TitleFinder$Ranking") true := ⟨_, tyX6, rfl, by decide, cw_X6, ⟨"TitleFinder", bw 195 (by decide +kernel) rfl, Or.inl rfl⟩, tyX6_ok, nmX6, rfl, rfl, fun h => by first | rfl | exact absurd h (by decide)⟩
set_option maxRecDepth 20000 in
theorem f_X6_43 : mF RX6 43 7 5 := ⟨_, rfl, by decide, cw_X6, "TitleFinder", bw 196 (by decide +kernel) rfl, Or.inl rfl⟩
set_option maxRecDepth 20000 in
theorem p_X6_43 : mFp RX6 43 7 5 (.object "TitleFinder$Study") true := ⟨_, tyX6, rfl, by decide, cw_X6, ⟨"TitleFinder", bw 196 (by decide +kernel) rfl, Or.inl rfl⟩, tyX6_ok, nmX6, rfl, rfl, fun h => by first | rfl | exact absurd h (by decide)⟩
set_option maxRecDepth 20000 in
theorem f_X6_51 : mF RX6 51 5 1 := ⟨_, rfl, by decide, cw_X4, "TitleFinder$Text", bw 126 (by decide +kernel) rfl, Or.inl rfl⟩
set_option maxRecDepth 20000 in
theorem f_X6_97 : mF RX6 97 3 3 := ⟨_, rfl, by decide, cw_X2, "TitleFinder$State", bw 84 (by decide +kernel) rfl, Or.inl rfl⟩
set_option maxRecDepth 20000 in
theorem p_X6_97 : mFp RX6 97 3 3 (.int) false := ⟨_, tyX2, rfl, by decide, cw_X2, ⟨"TitleFinder$State", bw 84 (by decide +kernel) rfl, Or.inl rfl⟩, tyX2_ok, nmX2, rfl, rfl, fun h => by first | rfl | exact absurd h (by decide)⟩
set_option maxRecDepth 20000 in
theorem f_X6_100 : mF RX6 100 3 4 := ⟨_, rfl, by decide, cw_X2, "TitleFinder$State", bw 86 (by decide +kernel) rfl, Or.inl rfl⟩
set_option maxRecDepth 20000 in
theorem p_X6_100 : mFp RX6 100 3 4 (.int) false := ⟨_, tyX2, rfl, by decide, cw_X2, ⟨"TitleFinder$State", bw 86 (by decide +kernel) rfl, Or.inl rfl⟩, tyX2_ok, nmX2, rfl, rfl, fun h => by first | rfl | exact absurd h (by decide)⟩
set_option maxRecDepth 20000 in
theorem f_X6_110 : mF RX6 110 3 2 := ⟨_, rfl, by decide, cw_X2, "TitleFinder$State", bw 81 (by decide +kernel) rfl, Or.inl rfl⟩
set_option maxRecDepth 20000 in
theorem p_X6_110 : mFp RX6 110 3 2 (.int) false := ⟨_, tyX2, rfl, by decide, cw_X2, ⟨"TitleFinder$State", bw 81 (by decide +kernel) rfl, Or.inl rfl⟩, tyX2_ok, nmX2, rfl, rfl, fun h => by first | rfl | exact absurd h (by decide)⟩
set_option maxRecDepth 20000 in
theorem f_X6_119 : mF RX6 119 3 0 := ⟨_, rfl, by decide, cw_X2, "TitleFinder$State", bw 77 (by decide +kernel) rfl, Or.inl rfl⟩
set_option maxRecDepth 20000 in
theorem f_X6_144 : mF RX6 144 6 0 := ⟨_, rfl, by decide, cw_X5, "TitleFinder$Title", bw 276 (by decide +kernel) rfl, Or.inl rfl⟩
set_option maxRecDepth 20000 in
theorem f_X6_156 : mF RX6 156 6 1 := ⟨_, rfl, by decide, cw_X5, "TitleFinder$Title", bw 278 (by decide +kernel) rfl, Or.inl rfl⟩
set_option maxRecDepth 20000 in
theorem f_X6_159 : mF RX6 159 6 2 := ⟨_, rfl, by decide, cw_X5, "TitleFinder$Title", bw 281 (by decide +kernel) rfl, Or.inl rfl⟩
set_option maxRecDepth 20000 in
theorem f_X6_165 : mF RX6 165 4 1 := ⟨_, rfl, by decide, cw_X3, "TitleFinder$Study", bw 173 (by decide +kernel) rfl, Or.inl rfl⟩
set_option maxRecDepth 20000 in
theorem f_X6_168 : mF RX6 168 4 2 := ⟨_, rfl, by decide, cw_X3, "TitleFinder$Study", bw 175 (by decide +kernel) rfl, Or.inl rfl⟩
set_option maxRecDepth 20000 in
theorem f_X6_174 : mF RX6 174 4 3 := ⟨_, rfl, by decide, cw_X3, "TitleFinder$Study", bw 177 (by decide +kernel) rfl, Or.inl rfl⟩
set_option maxRecDepth 20000 in
theorem f_X6_177 : mF RX6 177 4 4 := ⟨_, rfl, by decide, cw_X3, "TitleFinder$Study", bw 179 (by decide +kernel) rfl, Or.inl rfl⟩
set_option maxRecDepth 20000 in
theorem f_X6_202 : mF RX6 202 3 1 := ⟨_, rfl, by decide, cw_X2, "TitleFinder$State", bw 79 (by decide +kernel) rfl, Or.inl rfl⟩
set_option maxRecDepth 20000 in
theorem f_X6_208 : mF RX6 208 2 2 := ⟨_, rfl, by decide, cw_X1, "TitleFinder$Ranking", bw 154 (by decide +kernel) rfl, Or.inl rfl⟩
set_option maxRecDepth 20000 in
theorem n_X0_9 : mN RX0 9 3 [.null, .null, .int 0, .int 0, .int 0] := ⟨_, tyX2, rfl, cw_X2, tyX2_ok, bw 105 (by decide +kernel) rfl, bw 43 (by decide +kernel) rfl, bw 19 (by decide +kernel) rfl, by decide +kernel, rfl⟩
set_option maxRecDepth 20000 in
theorem n_X2_9 : mN RX2 9 0 [.int 0, .null, .int 0] := ⟨_, tyJx4a65c, rfl, cw_Jx4a65c, tyJx4a65c_ok, bw 48 (by decide +kernel) rfl, bw 49 (by decide +kernel) rfl, bw 22 (by decide +kernel) rfl, by decide +kernel, rfl⟩
set_option maxRecDepth 20000 in
theorem n_X5_10 : mN RX5 10 6 [.null, .null, .int 0] := ⟨_, tyX5, rfl, cw_X5, tyX5_ok, bw 262 (by decide +kernel) rfl, bw 263 (by decide +kernel) rfl, bw 28 (by decide +kernel) rfl, by decide +kernel, rfl⟩
set_option maxRecDepth 20000 in
theorem n_X6_7 : mN RX6 7 3 [.null, .null, .int 0, .int 0, .int 0] := ⟨_, tyX2, rfl, cw_X2, tyX2_ok, bw 42 (by decide +kernel) rfl, bw 43 (by decide +kernel) rfl, bw 19 (by decide +kernel) rfl, by decide +kernel, rfl⟩
set_option maxRecDepth 20000 in
theorem n_X6_19 : mN RX6 19 1 [.null, .int 0, .int 0] := ⟨_, tyX0, rfl, cw_X0, tyX0_ok, bw 99 (by decide +kernel) rfl, bw 100 (by decide +kernel) rfl, bw 23 (by decide +kernel) rfl, by decide +kernel, rfl⟩
set_option maxRecDepth 20000 in
theorem n_X6_26 : mN RX6 26 5 [.null, .int 0, .int 0, .int 0, .int 0, .int 0, .int 0] := ⟨_, tyX4, rfl, cw_X4, tyX4_ok, bw 118 (by decide +kernel) rfl, bw 119 (by decide +kernel) rfl, bw 24 (by decide +kernel) rfl, by decide +kernel, rfl⟩
set_option maxRecDepth 20000 in
theorem n_X6_33 : mN RX6 33 2 [.null, .null, .int 0] := ⟨_, tyX1, rfl, cw_X1, tyX1_ok, bw 145 (by decide +kernel) rfl, bw 146 (by decide +kernel) rfl, bw 25 (by decide +kernel) rfl, by decide +kernel, rfl⟩
set_option maxRecDepth 20000 in
theorem n_X6_40 : mN RX6 40 4 [.null, .int 0, .int 0, .int 0, .int 0] := ⟨_, tyX3, rfl, cw_X3, tyX3_ok, bw 163 (by decide +kernel) rfl, bw 164 (by decide +kernel) rfl, bw 26 (by decide +kernel) rfl, by decide +kernel, rfl⟩
set_option maxRecDepth 20000 in
theorem n_L_46 : mN RL 46 7 [.null, .null, .null, .null, .null, .null] := ⟨_, tyX6, rfl, cw_X6, tyX6_ok, bw 34 (by decide +kernel) rfl, bw 35 (by decide +kernel) rfl, bw 18 (by decide +kernel) rfl, by decide +kernel, rfl⟩
set_option maxRecDepth 20000 in
theorem m_X0_17 : mCn RX0 17 iX2_init 0 := ⟨⟨bw 46 (by decide +kernel) rfl, bw 19 (by decide +kernel) rfl, ⟨by decide +kernel, by decide +kernel⟩, by decide +kernel⟩, ⟨"TitleFinder", by decide +kernel⟩, bw 45 (by decide +kernel) rfl, rfl, rfl⟩
set_option maxRecDepth 20000 in
theorem m_X0_22 : mCv RX0 22 iX2_copyFrom 1 := ⟨⟨bw 326 (by decide +kernel) rfl, bw 19 (by decide +kernel) rfl, ⟨by decide +kernel, by decide +kernel⟩, by decide +kernel⟩, bw 323 (by decide +kernel) rfl, bw 324 (by decide +kernel) rfl, bw 325 (by decide +kernel) rfl⟩
set_option maxRecDepth 20000 in
theorem m_X1_28 : mCv RX1 28 iJx4a65c_size_8abf5 0 := ⟨⟨bw 296 (by decide +kernel) rfl, bw 22 (by decide +kernel) rfl, ⟨by decide +kernel, by decide +kernel⟩, by decide +kernel⟩, bw 508 (by decide +kernel) rfl, bw 294 (by decide +kernel) rfl, bw 295 (by decide +kernel) rfl⟩
set_option maxRecDepth 20000 in
theorem m_X1_34 : mCv RX1 34 iX2_placeOfMatch 1 := ⟨⟨bw 512 (by decide +kernel) rfl, bw 19 (by decide +kernel) rfl, ⟨by decide +kernel, by decide +kernel⟩, by decide +kernel⟩, bw 509 (by decide +kernel) rfl, bw 510 (by decide +kernel) rfl, bw 511 (by decide +kernel) rfl⟩
set_option maxRecDepth 20000 in
theorem m_X1_38 : mCv RX1 38 iX1_insert 3 := ⟨⟨bw 523 (by decide +kernel) rfl, bw 25 (by decide +kernel) rfl, ⟨by decide +kernel, by decide +kernel⟩, by decide +kernel⟩, bw 520 (by decide +kernel) rfl, bw 522 (by decide +kernel) rfl, bw 14 (by decide +kernel) rfl⟩
set_option maxRecDepth 20000 in
theorem m_X1_42 : mCv RX1 42 iX2_comesBefore 4 := ⟨⟨bw 474 (by decide +kernel) rfl, bw 19 (by decide +kernel) rfl, ⟨by decide +kernel, by decide +kernel⟩, by decide +kernel⟩, bw 524 (by decide +kernel) rfl, bw 472 (by decide +kernel) rfl, bw 473 (by decide +kernel) rfl⟩
set_option maxRecDepth 20000 in
theorem m_X1_46 : mCv RX1 46 iX1_has 1 := ⟨⟨bw 536 (by decide +kernel) rfl, bw 25 (by decide +kernel) rfl, ⟨by decide +kernel, by decide +kernel⟩, by decide +kernel⟩, bw 545 (by decide +kernel) rfl, bw 534 (by decide +kernel) rfl, bw 535 (by decide +kernel) rfl⟩
set_option maxRecDepth 20000 in
theorem m_X2_11 : mCi RX2 11 iJx4a65c_init_da8c8 0 := ⟨⟨bw 52 (by decide +kernel) rfl, bw 22 (by decide +kernel) rfl, ⟨by decide +kernel, by decide +kernel⟩, by decide +kernel⟩, bw 50 (by decide +kernel) rfl, bw 51 (by decide +kernel) rfl, rfl, rfl⟩
set_option maxRecDepth 20000 in
theorem m_X2_22 : mCv RX2 22 iJx4a65c_clear_da8c8 0 := ⟨⟨bw 330 (by decide +kernel) rfl, bw 22 (by decide +kernel) rfl, ⟨by decide +kernel, by decide +kernel⟩, by decide +kernel⟩, bw 327 (by decide +kernel) rfl, bw 328 (by decide +kernel) rfl, bw 329 (by decide +kernel) rfl⟩
set_option maxRecDepth 20000 in
theorem m_X2_25 : mCv RX2 25 iJx4a65c_size_8abf5 0 := ⟨⟨bw 296 (by decide +kernel) rfl, bw 22 (by decide +kernel) rfl, ⟨by decide +kernel, by decide +kernel⟩, by decide +kernel⟩, bw 293 (by decide +kernel) rfl, bw 294 (by decide +kernel) rfl, bw 295 (by decide +kernel) rfl⟩
set_option maxRecDepth 20000 in
theorem m_X2_29 : mCv RX2 29 iJx4a65c_get_915e3 1 := ⟨⟨bw 300 (by decide +kernel) rfl, bw 22 (by decide +kernel) rfl, ⟨by decide +kernel, by decide +kernel⟩, by decide +kernel⟩, bw 297 (by decide +kernel) rfl, bw 298 (by decide +kernel) rfl, bw 299 (by decide +kernel) rfl⟩
set_option maxRecDepth 20000 in
theorem m_X2_35 : mCv RX2 35 iJx4a65c_add_9ea2d 1 := ⟨⟨bw 334 (by decide +kernel) rfl, bw 22 (by decide +kernel) rfl, ⟨by decide +kernel, by decide +kernel⟩, by decide +kernel⟩, bw 331 (by decide +kernel) rfl, bw 332 (by decide +kernel) rfl, bw 333 (by decide +kernel) rfl⟩
set_option maxRecDepth 20000 in
theorem m_X2_49 : mCv RX2 49 iX5_hasLettersOf 1 := ⟨⟨bw 315 (by decide +kernel) rfl, bw 28 (by decide +kernel) rfl, ⟨by decide +kernel, by decide +kernel⟩, by decide +kernel⟩, bw 312 (by decide +kernel) rfl, bw 313 (by decide +kernel) rfl, bw 314 (by decide +kernel) rfl⟩
set_option maxRecDepth 20000 in
theorem m_X2_53 : mCv RX2 53 iX2_queryEndsWithLetter 0 := ⟨⟨bw 495 (by decide +kernel) rfl, bw 19 (by decide +kernel) rfl, ⟨by decide +kernel, by decide +kernel⟩, by decide +kernel⟩, bw 513 (by decide +kernel) rfl, bw 493 (by decide +kernel) rfl, bw 494 (by decide +kernel) rfl⟩
set_option maxRecDepth 20000 in
theorem m_X2_57 : mCv RX2 57 iX5_placeOf 3 := ⟨⟨bw 517 (by decide +kernel) rfl, bw 28 (by decide +kernel) rfl, ⟨by decide +kernel, by decide +kernel⟩, by decide +kernel⟩, bw 514 (by decide +kernel) rfl, bw 515 (by decide +kernel) rfl, bw 516 (by decide +kernel) rfl⟩
set_option maxRecDepth 20000 in
theorem m_X2_61 : mCv RX2 61 iX5_comesByNameBefore 1 := ⟨⟨bw 478 (by decide +kernel) rfl, bw 28 (by decide +kernel) rfl, ⟨by decide +kernel, by decide +kernel⟩, by decide +kernel⟩, bw 475 (by decide +kernel) rfl, bw 476 (by decide +kernel) rfl, bw 477 (by decide +kernel) rfl⟩
set_option maxRecDepth 20000 in
theorem m_X3_29 : mCv RX3 29 iX2_has 1 := ⟨⟨bw 398 (by decide +kernel) rfl, bw 19 (by decide +kernel) rfl, ⟨by decide +kernel, by decide +kernel⟩, by decide +kernel⟩, bw 425 (by decide +kernel) rfl, bw 396 (by decide +kernel) rfl, bw 397 (by decide +kernel) rfl⟩
set_option maxRecDepth 20000 in
theorem m_X3_39 : mCv RX3 39 iJx4a65c_get_915e3 1 := ⟨⟨bw 300 (by decide +kernel) rfl, bw 22 (by decide +kernel) rfl, ⟨by decide +kernel, by decide +kernel⟩, by decide +kernel⟩, bw 426 (by decide +kernel) rfl, bw 298 (by decide +kernel) rfl, bw 299 (by decide +kernel) rfl⟩
set_option maxRecDepth 20000 in
theorem m_X3_50 : mCv RX3 50 iX5_run 1 := ⟨⟨bw 431 (by decide +kernel) rfl, bw 28 (by decide +kernel) rfl, ⟨by decide +kernel, by decide +kernel⟩, by decide +kernel⟩, bw 428 (by decide +kernel) rfl, bw 429 (by decide +kernel) rfl, bw 430 (by decide +kernel) rfl⟩
set_option maxRecDepth 20000 in
theorem m_X3_54 : mCv RX3 54 iX5_startsPiece 2 := ⟨⟨bw 435 (by decide +kernel) rfl, bw 28 (by decide +kernel) rfl, ⟨by decide +kernel, by decide +kernel⟩, by decide +kernel⟩, bw 432 (by decide +kernel) rfl, bw 433 (by decide +kernel) rfl, bw 434 (by decide +kernel) rfl⟩
set_option maxRecDepth 20000 in
theorem m_X3_58 : mCv RX3 58 iX3_lookAtPiecesFrom 4 := ⟨⟨bw 439 (by decide +kernel) rfl, bw 26 (by decide +kernel) rfl, ⟨by decide +kernel, by decide +kernel⟩, by decide +kernel⟩, bw 436 (by decide +kernel) rfl, bw 438 (by decide +kernel) rfl, bw 9 (by decide +kernel) rfl⟩
set_option maxRecDepth 20000 in
theorem m_X3_62 : mCv RX3 62 iX3_longestWanted 0 := ⟨⟨bw 443 (by decide +kernel) rfl, bw 26 (by decide +kernel) rfl, ⟨by decide +kernel, by decide +kernel⟩, by decide +kernel⟩, bw 440 (by decide +kernel) rfl, bw 442 (by decide +kernel) rfl, bw 10 (by decide +kernel) rfl⟩
set_option maxRecDepth 20000 in
theorem m_X3_72 : mCv RX3 72 iJx4a65c_size_8abf5 0 := ⟨⟨bw 296 (by decide +kernel) rfl, bw 22 (by decide +kernel) rfl, ⟨by decide +kernel, by decide +kernel⟩, by decide +kernel⟩, bw 454 (by decide +kernel) rfl, bw 294 (by decide +kernel) rfl, bw 295 (by decide +kernel) rfl⟩
set_option maxRecDepth 20000 in
theorem m_X3_75 : mCs RX3 75 iX3_findPlaces 6 := ⟨⟨bw 457 (by decide +kernel) rfl, bw 26 (by decide +kernel) rfl, ⟨by decide +kernel, by decide +kernel⟩, by decide +kernel⟩, bw 455 (by decide +kernel) rfl, bw 456 (by decide +kernel) rfl⟩
set_option maxRecDepth 20000 in
theorem m_X3_79 : mCv RX3 79 iX3_hasKey 0 := ⟨⟨bw 447 (by decide +kernel) rfl, bw 26 (by decide +kernel) rfl, ⟨by decide +kernel, by decide +kernel⟩, by decide +kernel⟩, bw 444 (by decide +kernel) rfl, bw 445 (by decide +kernel) rfl, bw 446 (by decide +kernel) rfl⟩
set_option maxRecDepth 20000 in
theorem m_X3_83 : mCv RX3 83 iX3_isKnownBy 3 := ⟨⟨bw 462 (by decide +kernel) rfl, bw 26 (by decide +kernel) rfl, ⟨by decide +kernel, by decide +kernel⟩, by decide +kernel⟩, bw 459 (by decide +kernel) rfl, bw 461 (by decide +kernel) rfl, bw 11 (by decide +kernel) rfl⟩
set_option maxRecDepth 20000 in
theorem m_X3_87 : mCv RX3 87 iX3_hasShortcut 0 := ⟨⟨bw 451 (by decide +kernel) rfl, bw 26 (by decide +kernel) rfl, ⟨by decide +kernel, by decide +kernel⟩, by decide +kernel⟩, bw 448 (by decide +kernel) rfl, bw 449 (by decide +kernel) rfl, bw 450 (by decide +kernel) rfl⟩
set_option maxRecDepth 20000 in
theorem m_X3_90 : mCv RX3 90 iX3_isFirstFor 3 := ⟨⟨bw 470 (by decide +kernel) rfl, bw 26 (by decide +kernel) rfl, ⟨by decide +kernel, by decide +kernel⟩, by decide +kernel⟩, bw 467 (by decide +kernel) rfl, bw 469 (by decide +kernel) rfl, bw 13 (by decide +kernel) rfl⟩
set_option maxRecDepth 20000 in
theorem m_X3_96 : mCs RX3 96 iX5_sameLength 5 := ⟨⟨bw 318 (by decide +kernel) rfl, bw 28 (by decide +kernel) rfl, ⟨by decide +kernel, by decide +kernel⟩, by decide +kernel⟩, bw 458 (by decide +kernel) rfl, bw 317 (by decide +kernel) rfl⟩
set_option maxRecDepth 20000 in
theorem m_X3_100 : mCv RX3 100 iX3_placeOf 2 := ⟨⟨bw 466 (by decide +kernel) rfl, bw 26 (by decide +kernel) rfl, ⟨by decide +kernel, by decide +kernel⟩, by decide +kernel⟩, bw 463 (by decide +kernel) rfl, bw 465 (by decide +kernel) rfl, bw 12 (by decide +kernel) rfl⟩
set_option maxRecDepth 20000 in
theorem m_X3_103 : mCv RX3 103 iX2_comesBefore 4 := ⟨⟨bw 474 (by decide +kernel) rfl, bw 19 (by decide +kernel) rfl, ⟨by decide +kernel, by decide +kernel⟩, by decide +kernel⟩, bw 471 (by decide +kernel) rfl, bw 472 (by decide +kernel) rfl, bw 473 (by decide +kernel) rfl⟩
set_option maxRecDepth 20000 in
theorem m_X4_22 : mCv RX4 22 iX4_rewind 0 := ⟨⟨bw 237 (by decide +kernel) rfl, bw 24 (by decide +kernel) rfl, ⟨by decide +kernel, by decide +kernel⟩, by decide +kernel⟩, bw 234 (by decide +kernel) rfl, bw 235 (by decide +kernel) rfl, bw 236 (by decide +kernel) rfl⟩
set_option maxRecDepth 20000 in
theorem m_X4_32 : mCv RX4 32 iX4_passTitle 0 := ⟨⟨bw 241 (by decide +kernel) rfl, bw 24 (by decide +kernel) rfl, ⟨by decide +kernel, by decide +kernel⟩, by decide +kernel⟩, bw 238 (by decide +kernel) rfl, bw 240 (by decide +kernel) rfl, bw 0 (by decide +kernel) rfl⟩
set_option maxRecDepth 20000 in
theorem m_X4_49 : mCv RX4 49 iX4_hasSign 0 := ⟨⟨bw 245 (by decide +kernel) rfl, bw 24 (by decide +kernel) rfl, ⟨by decide +kernel, by decide +kernel⟩, by decide +kernel⟩, bw 242 (by decide +kernel) rfl, bw 244 (by decide +kernel) rfl, bw 1 (by decide +kernel) rfl⟩
set_option maxRecDepth 20000 in
theorem m_X4_55 : mCs RX4 55 iX4_isLetter 1 := ⟨⟨bw 248 (by decide +kernel) rfl, bw 24 (by decide +kernel) rfl, ⟨by decide +kernel, by decide +kernel⟩, by decide +kernel⟩, bw 246 (by decide +kernel) rfl, bw 247 (by decide +kernel) rfl⟩
set_option maxRecDepth 20000 in
theorem m_X4_65 : mCs RX4 65 iX4_isDigit 1 := ⟨⟨bw 251 (by decide +kernel) rfl, bw 24 (by decide +kernel) rfl, ⟨by decide +kernel, by decide +kernel⟩, by decide +kernel⟩, bw 249 (by decide +kernel) rfl, bw 250 (by decide +kernel) rfl⟩
set_option maxRecDepth 20000 in
theorem m_X4_119 : mCs RX4 119 iX5_unused 1 := ⟨⟨bw 261 (by decide +kernel) rfl, bw 28 (by decide +kernel) rfl, ⟨by decide +kernel, by decide +kernel⟩, by decide +kernel⟩, bw 259 (by decide +kernel) rfl, bw 260 (by decide +kernel) rfl⟩
set_option maxRecDepth 20000 in
theorem m_X5_22 : mCs RX5 22 iX5_initialsOf 1 := ⟨⟨bw 266 (by decide +kernel) rfl, bw 28 (by decide +kernel) rfl, ⟨by decide +kernel, by decide +kernel⟩, by decide +kernel⟩, bw 264 (by decide +kernel) rfl, bw 265 (by decide +kernel) rfl⟩
set_option maxRecDepth 20000 in
theorem m_X5_26 : mCi RX5 26 iX5_init 3 := ⟨⟨bw 272 (by decide +kernel) rfl, bw 28 (by decide +kernel) rfl, ⟨by decide +kernel, by decide +kernel⟩, by decide +kernel⟩, bw 270 (by decide +kernel) rfl, bw 271 (by decide +kernel) rfl, rfl, rfl⟩
set_option maxRecDepth 20000 in
theorem m_X5_29 : mCs RX5 29 iX5_wordCount 1 := ⟨⟨bw 269 (by decide +kernel) rfl, bw 28 (by decide +kernel) rfl, ⟨by decide +kernel, by decide +kernel⟩, by decide +kernel⟩, bw 267 (by decide +kernel) rfl, bw 268 (by decide +kernel) rfl⟩
set_option maxRecDepth 20000 in
theorem m_X5_33 : mCv RX5 33 iX5_run 1 := ⟨⟨bw 431 (by decide +kernel) rfl, bw 28 (by decide +kernel) rfl, ⟨by decide +kernel, by decide +kernel⟩, by decide +kernel⟩, bw 518 (by decide +kernel) rfl, bw 429 (by decide +kernel) rfl, bw 430 (by decide +kernel) rfl⟩
set_option maxRecDepth 20000 in
theorem m_X5_37 : mCv RX5 37 iX5_startsPiece 2 := ⟨⟨bw 435 (by decide +kernel) rfl, bw 28 (by decide +kernel) rfl, ⟨by decide +kernel, by decide +kernel⟩, by decide +kernel⟩, bw 519 (by decide +kernel) rfl, bw 433 (by decide +kernel) rfl, bw 434 (by decide +kernel) rfl⟩
set_option maxRecDepth 20000 in
theorem m_X5_41 : mCs RX5 41 iX5_sameLength 5 := ⟨⟨bw 318 (by decide +kernel) rfl, bw 28 (by decide +kernel) rfl, ⟨by decide +kernel, by decide +kernel⟩, by decide +kernel⟩, bw 316 (by decide +kernel) rfl, bw 317 (by decide +kernel) rfl⟩
set_option maxRecDepth 20000 in
theorem m_X6_9 : mCn RX6 9 iX2_init 0 := ⟨⟨bw 46 (by decide +kernel) rfl, bw 19 (by decide +kernel) rfl, ⟨by decide +kernel, by decide +kernel⟩, by decide +kernel⟩, ⟨"TitleFinder", by decide +kernel⟩, bw 45 (by decide +kernel) rfl, rfl, rfl⟩
set_option maxRecDepth 20000 in
theorem m_X6_21 : mCi RX6 21 iX0_init 0 := ⟨⟨bw 103 (by decide +kernel) rfl, bw 23 (by decide +kernel) rfl, ⟨by decide +kernel, by decide +kernel⟩, by decide +kernel⟩, bw 101 (by decide +kernel) rfl, bw 102 (by decide +kernel) rfl, rfl, rfl⟩
set_option maxRecDepth 20000 in
theorem m_X6_28 : mCn RX6 28 iX4_init 0 := ⟨⟨bw 122 (by decide +kernel) rfl, bw 24 (by decide +kernel) rfl, ⟨by decide +kernel, by decide +kernel⟩, by decide +kernel⟩, ⟨"TitleFinder", by decide +kernel⟩, bw 121 (by decide +kernel) rfl, rfl, rfl⟩
set_option maxRecDepth 20000 in
theorem m_X6_35 : mCn RX6 35 iX1_init 0 := ⟨⟨bw 149 (by decide +kernel) rfl, bw 25 (by decide +kernel) rfl, ⟨by decide +kernel, by decide +kernel⟩, by decide +kernel⟩, ⟨"TitleFinder", by decide +kernel⟩, bw 148 (by decide +kernel) rfl, rfl, rfl⟩
set_option maxRecDepth 20000 in
theorem m_X6_42 : mCn RX6 42 iX3_init 0 := ⟨⟨bw 167 (by decide +kernel) rfl, bw 26 (by decide +kernel) rfl, ⟨by decide +kernel, by decide +kernel⟩, by decide +kernel⟩, ⟨"TitleFinder", by decide +kernel⟩, bw 166 (by decide +kernel) rfl, rfl, rfl⟩
set_option maxRecDepth 20000 in
theorem m_X6_47 : mCv RX6 47 iX4_append 1 := ⟨⟨bw 217 (by decide +kernel) rfl, bw 24 (by decide +kernel) rfl, ⟨by decide +kernel, by decide +kernel⟩, by decide +kernel⟩, bw 214 (by decide +kernel) rfl, bw 215 (by decide +kernel) rfl, bw 216 (by decide +kernel) rfl⟩
set_option maxRecDepth 20000 in
theorem m_X6_55 : mCv RX6 55 iX4_makeEmpty 0 := ⟨⟨bw 225 (by decide +kernel) rfl, bw 24 (by decide +kernel) rfl, ⟨by decide +kernel, by decide +kernel⟩, by decide +kernel⟩, bw 222 (by decide +kernel) rfl, bw 223 (by decide +kernel) rfl, bw 224 (by decide +kernel) rfl⟩
set_option maxRecDepth 20000 in
theorem m_X6_113 : mCv RX6 113 iX4_isTitle 0 := ⟨⟨bw 233 (by decide +kernel) rfl, bw 24 (by decide +kernel) rfl, ⟨by decide +kernel, by decide +kernel⟩, by decide +kernel⟩, bw 230 (by decide +kernel) rfl, bw 231 (by decide +kernel) rfl, bw 232 (by decide +kernel) rfl⟩
set_option maxRecDepth 20000 in
theorem m_X6_82 : mCv RX6 82 iX4_passedTitle 0 := ⟨⟨bw 255 (by decide +kernel) rfl, bw 24 (by decide +kernel) rfl, ⟨by decide +kernel, by decide +kernel⟩, by decide +kernel⟩, bw 252 (by decide +kernel) rfl, bw 253 (by decide +kernel) rfl, bw 254 (by decide +kernel) rfl⟩
set_option maxRecDepth 20000 in
theorem m_X6_116 : mCv RX6 116 iX2_refusal 1 := ⟨⟨bw 292 (by decide +kernel) rfl, bw 19 (by decide +kernel) rfl, ⟨by decide +kernel, by decide +kernel⟩, by decide +kernel⟩, bw 289 (by decide +kernel) rfl, bw 290 (by decide +kernel) rfl, bw 291 (by decide +kernel) rfl⟩
set_option maxRecDepth 20000 in
theorem m_X6_62 : mCv RX6 62 iX0_save 1 := ⟨⟨bw 322 (by decide +kernel) rfl, bw 23 (by decide +kernel) rfl, ⟨by decide +kernel, by decide +kernel⟩, by decide +kernel⟩, bw 319 (by decide +kernel) rfl, bw 320 (by decide +kernel) rfl, bw 321 (by decide +kernel) rfl⟩
set_option maxRecDepth 20000 in
theorem m_X6_86 : mCv RX6 86 iX6_addIfPossible 1 := ⟨⟨bw 388 (by decide +kernel) rfl, bw 18 (by decide +kernel) rfl, ⟨by decide +kernel, by decide +kernel⟩, by decide +kernel⟩, bw 385 (by decide +kernel) rfl, bw 387 (by decide +kernel) rfl, bw 5 (by decide +kernel) rfl⟩
set_option maxRecDepth 20000 in
theorem m_X6_123 : mCv RX6 123 iJx4a65c_add_9ea2d 1 := ⟨⟨bw 334 (by decide +kernel) rfl, bw 22 (by decide +kernel) rfl, ⟨by decide +kernel, by decide +kernel⟩, by decide +kernel⟩, bw 389 (by decide +kernel) rfl, bw 332 (by decide +kernel) rfl, bw 333 (by decide +kernel) rfl⟩
set_option maxRecDepth 20000 in
theorem m_X6_129 : mCv RX6 129 iJx4a65c_size_8abf5 0 := ⟨⟨bw 296 (by decide +kernel) rfl, bw 22 (by decide +kernel) rfl, ⟨by decide +kernel, by decide +kernel⟩, by decide +kernel⟩, bw 390 (by decide +kernel) rfl, bw 294 (by decide +kernel) rfl, bw 295 (by decide +kernel) rfl⟩
set_option maxRecDepth 20000 in
theorem m_X6_132 : mCv RX6 132 iX2_has 1 := ⟨⟨bw 398 (by decide +kernel) rfl, bw 19 (by decide +kernel) rfl, ⟨by decide +kernel, by decide +kernel⟩, by decide +kernel⟩, bw 395 (by decide +kernel) rfl, bw 396 (by decide +kernel) rfl, bw 397 (by decide +kernel) rfl⟩
set_option maxRecDepth 20000 in
theorem m_X6_93 : mCv RX6 93 iX6_dropIfThere 1 := ⟨⟨bw 402 (by decide +kernel) rfl, bw 18 (by decide +kernel) rfl, ⟨by decide +kernel, by decide +kernel⟩, by decide +kernel⟩, bw 399 (by decide +kernel) rfl, bw 401 (by decide +kernel) rfl, bw 6 (by decide +kernel) rfl⟩
set_option maxRecDepth 20000 in
theorem m_X6_135 : mCv RX6 135 iJx4a65c_remove_915e3 1 := ⟨⟨bw 406 (by decide +kernel) rfl, bw 22 (by decide +kernel) rfl, ⟨by decide +kernel, by decide +kernel⟩, by decide +kernel⟩, bw 403 (by decide +kernel) rfl, bw 404 (by decide +kernel) rfl, bw 405 (by decide +kernel) rfl⟩
set_option maxRecDepth 20000 in
theorem m_X6_139 : mCv RX6 139 iJx4a65c_get_915e3 1 := ⟨⟨bw 300 (by decide +kernel) rfl, bw 22 (by decide +kernel) rfl, ⟨by decide +kernel, by decide +kernel⟩, by decide +kernel⟩, bw 546 (by decide +kernel) rfl, bw 298 (by decide +kernel) rfl, bw 299 (by decide +kernel) rfl⟩
