set_option maxRecDepth 20000 in
theorem m_X6_148 : mCv RX6 148 iX3_look 2 := ⟨⟨bw 424 (by decide +kernel) rfl, bw 26 (by decide +kernel) rfl, ⟨by decide +kernel, by decide +kernel⟩, by decide +kernel⟩, bw 421 (by decide +kernel) rfl, bw 422 (by decide +kernel) rfl, bw 423 (by decide +kernel) rfl⟩
set_option maxRecDepth 20000 in
theorem m_X6_152 : mCv RX6 152 iX6_studiedNumber 2 := ⟨⟨bw 613 (by decide +kernel) rfl, bw 18 (by decide +kernel) rfl, ⟨by decide +kernel, by decide +kernel⟩, by decide +kernel⟩, bw 610 (by decide +kernel) rfl, bw 612 (by decide +kernel) rfl, bw 16 (by decide +kernel) rfl⟩
set_option maxRecDepth 20000 in
theorem m_X6_162 : mCv RX6 162 iX3_hasKey 0 := ⟨⟨bw 447 (by decide +kernel) rfl, bw 26 (by decide +kernel) rfl, ⟨by decide +kernel, by decide +kernel⟩, by decide +kernel⟩, bw 614 (by decide +kernel) rfl, bw 445 (by decide +kernel) rfl, bw 446 (by decide +kernel) rfl⟩
set_option maxRecDepth 20000 in
theorem m_X6_171 : mCv RX6 171 iX3_hasShortcut 0 := ⟨⟨bw 451 (by decide +kernel) rfl, bw 26 (by decide +kernel) rfl, ⟨by decide +kernel, by decide +kernel⟩, by decide +kernel⟩, bw 615 (by decide +kernel) rfl, bw 449 (by decide +kernel) rfl, bw 450 (by decide +kernel) rfl⟩
set_option maxRecDepth 20000 in
theorem m_X6_180 : mCv RX6 180 iX5_commonRun 1 := ⟨⟨bw 626 (by decide +kernel) rfl, bw 28 (by decide +kernel) rfl, ⟨by decide +kernel, by decide +kernel⟩, by decide +kernel⟩, bw 623 (by decide +kernel) rfl, bw 624 (by decide +kernel) rfl, bw 625 (by decide +kernel) rfl⟩
set_option maxRecDepth 20000 in
theorem m_X6_183 : mCv RX6 183 iX2_copyFrom 1 := ⟨⟨bw 326 (by decide +kernel) rfl, bw 19 (by decide +kernel) rfl, ⟨by decide +kernel, by decide +kernel⟩, by decide +kernel⟩, bw 416 (by decide +kernel) rfl, bw 324 (by decide +kernel) rfl, bw 325 (by decide +kernel) rfl⟩
set_option maxRecDepth 20000 in
theorem m_X6_186 : mCv RX6 186 iX6_keyWouldChange 1 := ⟨⟨bw 420 (by decide +kernel) rfl, bw 18 (by decide +kernel) rfl, ⟨by decide +kernel, by decide +kernel⟩, by decide +kernel⟩, bw 417 (by decide +kernel) rfl, bw 419 (by decide +kernel) rfl, bw 8 (by decide +kernel) rfl⟩
set_option maxRecDepth 20000 in
theorem m_X6_189 : mCs RX6 189 iX4_isLetter 1 := ⟨⟨bw 248 (by decide +kernel) rfl, bw 24 (by decide +kernel) rfl, ⟨by decide +kernel, by decide +kernel⟩, by decide +kernel⟩, bw 491 (by decide +kernel) rfl, bw 247 (by decide +kernel) rfl⟩
set_option maxRecDepth 20000 in
theorem m_X6_192 : mCv RX6 192 iX2_queryEndsWithLetter 0 := ⟨⟨bw 495 (by decide +kernel) rfl, bw 19 (by decide +kernel) rfl, ⟨by decide +kernel, by decide +kernel⟩, by decide +kernel⟩, bw 492 (by decide +kernel) rfl, bw 493 (by decide +kernel) rfl, bw 494 (by decide +kernel) rfl⟩
set_option maxRecDepth 20000 in
theorem m_X6_195 : mCv RX6 195 iX2_appendToQuery 1 := ⟨⟨bw 499 (by decide +kernel) rfl, bw 19 (by decide +kernel) rfl, ⟨by decide +kernel, by decide +kernel⟩, by decide +kernel⟩, bw 496 (by decide +kernel) rfl, bw 497 (by decide +kernel) rfl, bw 498 (by decide +kernel) rfl⟩
set_option maxRecDepth 20000 in
theorem m_X6_199 : mCv RX6 199 iX6_results 0 := ⟨⟨bw 503 (by decide +kernel) rfl, bw 18 (by decide +kernel) rfl, ⟨by decide +kernel, by decide +kernel⟩, by decide +kernel⟩, bw 500 (by decide +kernel) rfl, bw 501 (by decide +kernel) rfl, bw 502 (by decide +kernel) rfl⟩
set_option maxRecDepth 20000 in
theorem m_X6_205 : mCv RX6 205 iX1_rank 1 := ⟨⟨bw 507 (by decide +kernel) rfl, bw 25 (by decide +kernel) rfl, ⟨by decide +kernel, by decide +kernel⟩, by decide +kernel⟩, bw 504 (by decide +kernel) rfl, bw 505 (by decide +kernel) rfl, bw 506 (by decide +kernel) rfl⟩
set_option maxRecDepth 20000 in
theorem m_X6_211 : mCv RX6 211 iX1_has 1 := ⟨⟨bw 536 (by decide +kernel) rfl, bw 25 (by decide +kernel) rfl, ⟨by decide +kernel, by decide +kernel⟩, by decide +kernel⟩, bw 533 (by decide +kernel) rfl, bw 534 (by decide +kernel) rfl, bw 535 (by decide +kernel) rfl⟩
set_option maxRecDepth 20000 in
theorem m_X6_212 : mCv RX6 212 iX1_titleAt 1 := ⟨⟨bw 544 (by decide +kernel) rfl, bw 25 (by decide +kernel) rfl, ⟨by decide +kernel, by decide +kernel⟩, by decide +kernel⟩, bw 541 (by decide +kernel) rfl, bw 542 (by decide +kernel) rfl, bw 543 (by decide +kernel) rfl⟩
set_option maxRecDepth 20000 in
theorem m_X6_215 : mCv RX6 215 iX1_placeAt 1 := ⟨⟨bw 643 (by decide +kernel) rfl, bw 25 (by decide +kernel) rfl, ⟨by decide +kernel, by decide +kernel⟩, by decide +kernel⟩, bw 640 (by decide +kernel) rfl, bw 641 (by decide +kernel) rfl, bw 642 (by decide +kernel) rfl⟩
set_option maxRecDepth 20000 in
theorem m_X6_106 : mCv RX6 106 iX6_pickIfThere 1 := ⟨⟨bw 540 (by decide +kernel) rfl, bw 18 (by decide +kernel) rfl, ⟨by decide +kernel, by decide +kernel⟩, by decide +kernel⟩, bw 537 (by decide +kernel) rfl, bw 539 (by decide +kernel) rfl, bw 15 (by decide +kernel) rfl⟩
set_option maxRecDepth 20000 in
theorem m_X6_218 : mCv RX6 218 iX5_usedOnceMore 0 := ⟨⟨bw 551 (by decide +kernel) rfl, bw 28 (by decide +kernel) rfl, ⟨by decide +kernel, by decide +kernel⟩, by decide +kernel⟩, bw 548 (by decide +kernel) rfl, bw 549 (by decide +kernel) rfl, bw 550 (by decide +kernel) rfl⟩
set_option maxRecDepth 20000 in
theorem m_X6_221 : mCv RX6 221 iJx4a65c_set_bcc79 2 := ⟨⟨bw 555 (by decide +kernel) rfl, bw 22 (by decide +kernel) rfl, ⟨by decide +kernel, by decide +kernel⟩, by decide +kernel⟩, bw 552 (by decide +kernel) rfl, bw 553 (by decide +kernel) rfl, bw 554 (by decide +kernel) rfl⟩
set_option maxRecDepth 20000 in
theorem m_Jxc12de_1 : mCi RJxc12de 1 iJxa1e45_init_da8c8 0 := ⟨⟨bw 58 (by decide +kernel) rfl, bw 20 (by decide +kernel) rfl, ⟨by decide +kernel, by decide +kernel⟩, by decide +kernel⟩, bw 56 (by decide +kernel) rfl, bw 57 (by decide +kernel) rfl, rfl, rfl⟩
set_option maxRecDepth 20000 in
theorem m_Jx4a65c_1 : mCi RJx4a65c 1 iJxc12de_init_da8c8 0 := ⟨⟨bw 55 (by decide +kernel) rfl, bw 21 (by decide +kernel) rfl, ⟨by decide +kernel, by decide +kernel⟩, by decide +kernel⟩, bw 53 (by decide +kernel) rfl, bw 54 (by decide +kernel) rfl, rfl, rfl⟩
set_option maxRecDepth 20000 in
theorem m_Jx4a65c_73 : mCs RJx4a65c 73 iJ8_newLength_cabcc 3 := ⟨⟨bw 349 (by decide +kernel) rfl, bw 31 (by decide +kernel) rfl, ⟨by decide +kernel, by decide +kernel⟩, by decide +kernel⟩, bw 347 (by decide +kernel) rfl, bw 348 (by decide +kernel) rfl⟩
set_option maxRecDepth 20000 in
theorem m_Jx4a65c_66 : mCs RJx4a65c 66 iJ7_copyOf_1904c 2 := ⟨⟨bw 357 (by decide +kernel) rfl, bw 32 (by decide +kernel) rfl, ⟨by decide +kernel, by decide +kernel⟩, by decide +kernel⟩, bw 355 (by decide +kernel) rfl, bw 356 (by decide +kernel) rfl⟩
set_option maxRecDepth 20000 in
theorem m_Jx4a65c_69 : mCv RJx4a65c 69 iJx4a65c_grow_92f84 1 := ⟨⟨bw 346 (by decide +kernel) rfl, bw 22 (by decide +kernel) rfl, ⟨by decide +kernel, by decide +kernel⟩, by decide +kernel⟩, bw 343 (by decide +kernel) rfl, bw 345 (by decide +kernel) rfl, bw 4 (by decide +kernel) rfl⟩
set_option maxRecDepth 20000 in
theorem m_Jx4a65c_118 : mCs RJx4a65c 118 iJ15_checkIndex_7cf53 2 := ⟨⟨bw 303 (by decide +kernel) rfl, bw 29 (by decide +kernel) rfl, ⟨by decide +kernel, by decide +kernel⟩, by decide +kernel⟩, bw 301 (by decide +kernel) rfl, bw 302 (by decide +kernel) rfl⟩
set_option maxRecDepth 20000 in
theorem m_Jx4a65c_123 : mCv RJx4a65c 123 iJx4a65c_elementData_915e3 1 := ⟨⟨bw 310 (by decide +kernel) rfl, bw 22 (by decide +kernel) rfl, ⟨by decide +kernel, by decide +kernel⟩, by decide +kernel⟩, bw 307 (by decide +kernel) rfl, bw 308 (by decide +kernel) rfl, bw 309 (by decide +kernel) rfl⟩
set_option maxRecDepth 20000 in
theorem m_Jx4a65c_129 : mCv RJx4a65c 129 iJx4a65c_grow_d5877 0 := ⟨⟨bw 342 (by decide +kernel) rfl, bw 22 (by decide +kernel) rfl, ⟨by decide +kernel, by decide +kernel⟩, by decide +kernel⟩, bw 339 (by decide +kernel) rfl, bw 341 (by decide +kernel) rfl, bw 3 (by decide +kernel) rfl⟩
set_option maxRecDepth 20000 in
theorem m_Jx4a65c_131 : mCv RJx4a65c 131 iJx4a65c_add_72be8 3 := ⟨⟨bw 338 (by decide +kernel) rfl, bw 22 (by decide +kernel) rfl, ⟨by decide +kernel, by decide +kernel⟩, by decide +kernel⟩, bw 335 (by decide +kernel) rfl, bw 337 (by decide +kernel) rfl, bw 2 (by decide +kernel) rfl⟩
set_option maxRecDepth 20000 in
theorem m_Jx4a65c_144 : mCv RJx4a65c 144 iJx4a65c_fastRemove_b59b0 2 := ⟨⟨bw 410 (by decide +kernel) rfl, bw 22 (by decide +kernel) rfl, ⟨by decide +kernel, by decide +kernel⟩, by decide +kernel⟩, bw 407 (by decide +kernel) rfl, bw 409 (by decide +kernel) rfl, bw 7 (by decide +kernel) rfl⟩
set_option maxRecDepth 20000 in
theorem m_J7_300 : mCs RJ7 300 iJ7_copyOf_6403c 3 := ⟨⟨bw 372 (by decide +kernel) rfl, bw 32 (by decide +kernel) rfl, ⟨by decide +kernel, by decide +kernel⟩, by decide +kernel⟩, bw 370 (by decide +kernel) rfl, bw 371 (by decide +kernel) rfl⟩
set_option maxRecDepth 20000 in
theorem m_J15_105 : mCs RJ15 105 iJ3_checkIndex_8e157 3 := ⟨⟨bw 306 (by decide +kernel) rfl, bw 30 (by decide +kernel) rfl, ⟨by decide +kernel, by decide +kernel⟩, by decide +kernel⟩, bw 304 (by decide +kernel) rfl, bw 305 (by decide +kernel) rfl⟩
set_option maxRecDepth 20000 in
theorem m_J8_201 : mCs RJ8 201 iJ8_hugeLength_7cf53 2 := ⟨⟨bw 354 (by decide +kernel) rfl, bw 31 (by decide +kernel) rfl, ⟨by decide +kernel, by decide +kernel⟩, by decide +kernel⟩, bw 352 (by decide +kernel) rfl, bw 353 (by decide +kernel) rfl⟩
set_option maxRecDepth 20000 in
theorem m_L_12 : mCs RL 12 iL_at 2 := ⟨⟨bw 570 (by decide +kernel) rfl, bw 17 (by decide +kernel) rfl, ⟨by decide +kernel, by decide +kernel⟩, by decide +kernel⟩, bw 568 (by decide +kernel) rfl, bw 569 (by decide +kernel) rfl⟩
set_option maxRecDepth 20000 in
theorem m_L_18 : mCs RL 18 iL_size 1 := ⟨⟨bw 574 (by decide +kernel) rfl, bw 17 (by decide +kernel) rfl, ⟨by decide +kernel, by decide +kernel⟩, by decide +kernel⟩, bw 572 (by decide +kernel) rfl, bw 573 (by decide +kernel) rfl⟩
set_option maxRecDepth 20000 in
theorem m_L_22 : mCs RL 22 iL_from 2 := ⟨⟨bw 580 (by decide +kernel) rfl, bw 17 (by decide +kernel) rfl, ⟨by decide +kernel, by decide +kernel⟩, by decide +kernel⟩, bw 578 (by decide +kernel) rfl, bw 579 (by decide +kernel) rfl⟩
set_option maxRecDepth 20000 in
theorem m_L_26 : mCs RL 26 iL_piece 4 := ⟨⟨bw 583 (by decide +kernel) rfl, bw 17 (by decide +kernel) rfl, ⟨by decide +kernel, by decide +kernel⟩, by decide +kernel⟩, bw 581 (by decide +kernel) rfl, bw 582 (by decide +kernel) rfl⟩
set_option maxRecDepth 20000 in
theorem m_L_30 : mCs RL 30 iL_code 1 := ⟨⟨bw 567 (by decide +kernel) rfl, bw 17 (by decide +kernel) rfl, ⟨by decide +kernel, by decide +kernel⟩, by decide +kernel⟩, bw 565 (by decide +kernel) rfl, bw 566 (by decide +kernel) rfl⟩
set_option maxRecDepth 20000 in
theorem m_L_34 : mCs RL 34 iL_named 2 := ⟨⟨bw 592 (by decide +kernel) rfl, bw 17 (by decide +kernel) rfl, ⟨by decide +kernel, by decide +kernel⟩, by decide +kernel⟩, bw 590 (by decide +kernel) rfl, bw 591 (by decide +kernel) rfl⟩
set_option maxRecDepth 20000 in
theorem m_L_38 : mCs RL 38 iL_place 3 := ⟨⟨bw 577 (by decide +kernel) rfl, bw 17 (by decide +kernel) rfl, ⟨by decide +kernel, by decide +kernel⟩, by decide +kernel⟩, bw 575 (by decide +kernel) rfl, bw 576 (by decide +kernel) rfl⟩
set_option maxRecDepth 20000 in
theorem m_L_42 : mCs RL 42 iL_ahead 5 := ⟨⟨bw 589 (by decide +kernel) rfl, bw 17 (by decide +kernel) rfl, ⟨by decide +kernel, by decide +kernel⟩, by decide +kernel⟩, bw 587 (by decide +kernel) rfl, bw 588 (by decide +kernel) rfl⟩
set_option maxRecDepth 20000 in
theorem m_L_48 : mCs RL 48 iL_cut 1 := ⟨⟨bw 595 (by decide +kernel) rfl, bw 17 (by decide +kernel) rfl, ⟨by decide +kernel, by decide +kernel⟩, by decide +kernel⟩, bw 593 (by decide +kernel) rfl, bw 594 (by decide +kernel) rfl⟩
set_option maxRecDepth 20000 in
theorem m_L_52 : mCv RL 52 iX6_character 2 := ⟨⟨bw 605 (by decide +kernel) rfl, bw 18 (by decide +kernel) rfl, ⟨by decide +kernel, by decide +kernel⟩, by decide +kernel⟩, bw 602 (by decide +kernel) rfl, bw 603 (by decide +kernel) rfl, bw 604 (by decide +kernel) rfl⟩
set_option maxRecDepth 20000 in
theorem m_L_56 : mCs RL 56 iL_best 4 := ⟨⟨bw 586 (by decide +kernel) rfl, bw 17 (by decide +kernel) rfl, ⟨by decide +kernel, by decide +kernel⟩, by decide +kernel⟩, bw 584 (by decide +kernel) rfl, bw 585 (by decide +kernel) rfl⟩
set_option maxRecDepth 20000 in
theorem m_L_60 : mCv RL 60 iX6_of 2 := ⟨⟨bw 609 (by decide +kernel) rfl, bw 18 (by decide +kernel) rfl, ⟨by decide +kernel, by decide +kernel⟩, by decide +kernel⟩, bw 606 (by decide +kernel) rfl, bw 607 (by decide +kernel) rfl, bw 608 (by decide +kernel) rfl⟩
set_option maxRecDepth 20000 in
theorem m_L_63 : mCs RL 63 iL_common 2 := ⟨⟨bw 618 (by decide +kernel) rfl, bw 17 (by decide +kernel) rfl, ⟨by decide +kernel, by decide +kernel⟩, by decide +kernel⟩, bw 616 (by decide +kernel) rfl, bw 617 (by decide +kernel) rfl⟩
set_option maxRecDepth 20000 in
theorem m_L_67 : mCv RL 67 iX6_closest 1 := ⟨⟨bw 622 (by decide +kernel) rfl, bw 18 (by decide +kernel) rfl, ⟨by decide +kernel, by decide +kernel⟩, by decide +kernel⟩, bw 619 (by decide +kernel) rfl, bw 620 (by decide +kernel) rfl, bw 621 (by decide +kernel) rfl⟩
set_option maxRecDepth 20000 in
theorem m_L_70 : mCs RL 70 iL_low 2 := ⟨⟨bw 563 (by decide +kernel) rfl, bw 17 (by decide +kernel) rfl, ⟨by decide +kernel, by decide +kernel⟩, by decide +kernel⟩, bw 561 (by decide +kernel) rfl, bw 562 (by decide +kernel) rfl⟩
set_option maxRecDepth 20000 in
theorem m_L_73 : mCv RL 73 iX6_common 2 := ⟨⟨bw 631 (by decide +kernel) rfl, bw 18 (by decide +kernel) rfl, ⟨by decide +kernel, by decide +kernel⟩, by decide +kernel⟩, bw 628 (by decide +kernel) rfl, bw 629 (by decide +kernel) rfl, bw 630 (by decide +kernel) rfl⟩
set_option maxRecDepth 20000 in
theorem m_L_75 : mCs RL 75 iL_ranked 4 := ⟨⟨bw 598 (by decide +kernel) rfl, bw 17 (by decide +kernel) rfl, ⟨by decide +kernel, by decide +kernel⟩, by decide +kernel⟩, bw 596 (by decide +kernel) rfl, bw 597 (by decide +kernel) rfl⟩
set_option maxRecDepth 20000 in
theorem m_L_79 : mCv RL 79 iX6_result 1 := ⟨⟨bw 635 (by decide +kernel) rfl, bw 18 (by decide +kernel) rfl, ⟨by decide +kernel, by decide +kernel⟩, by decide +kernel⟩, bw 632 (by decide +kernel) rfl, bw 633 (by decide +kernel) rfl, bw 634 (by decide +kernel) rfl⟩
set_option maxRecDepth 20000 in
theorem m_L_82 : mCv RL 82 iX6_matchPlace 1 := ⟨⟨bw 639 (by decide +kernel) rfl, bw 18 (by decide +kernel) rfl, ⟨by decide +kernel, by decide +kernel⟩, by decide +kernel⟩, bw 636 (by decide +kernel) rfl, bw 637 (by decide +kernel) rfl, bw 638 (by decide +kernel) rfl⟩
set_option maxRecDepth 20000 in
theorem m_L_85 : mCv RL 85 iX6_queryCharacter 1 := ⟨⟨bw 647 (by decide +kernel) rfl, bw 18 (by decide +kernel) rfl, ⟨by decide +kernel, by decide +kernel⟩, by decide +kernel⟩, bw 644 (by decide +kernel) rfl, bw 645 (by decide +kernel) rfl, bw 646 (by decide +kernel) rfl⟩
set_option maxRecDepth 20000 in
theorem m_L_88 : mCv RL 88 iX6_titles 0 := ⟨⟨bw 651 (by decide +kernel) rfl, bw 18 (by decide +kernel) rfl, ⟨by decide +kernel, by decide +kernel⟩, by decide +kernel⟩, bw 648 (by decide +kernel) rfl, bw 649 (by decide +kernel) rfl, bw 650 (by decide +kernel) rfl⟩
set_option maxRecDepth 20000 in
theorem m_L_92 : mCv RL 92 iX6_mode 0 := ⟨⟨bw 655 (by decide +kernel) rfl, bw 18 (by decide +kernel) rfl, ⟨by decide +kernel, by decide +kernel⟩, by decide +kernel⟩, bw 652 (by decide +kernel) rfl, bw 653 (by decide +kernel) rfl, bw 654 (by decide +kernel) rfl⟩
set_option maxRecDepth 20000 in
theorem m_L_95 : mCv RL 95 iX6_order 0 := ⟨⟨bw 659 (by decide +kernel) rfl, bw 18 (by decide +kernel) rfl, ⟨by decide +kernel, by decide +kernel⟩, by decide +kernel⟩, bw 656 (by decide +kernel) rfl, bw 657 (by decide +kernel) rfl, bw 658 (by decide +kernel) rfl⟩
set_option maxRecDepth 20000 in
theorem m_L_98 : mCv RL 98 iX6_unknown 0 := ⟨⟨bw 663 (by decide +kernel) rfl, bw 18 (by decide +kernel) rfl, ⟨by decide +kernel, by decide +kernel⟩, by decide +kernel⟩, bw 660 (by decide +kernel) rfl, bw 661 (by decide +kernel) rfl, bw 662 (by decide +kernel) rfl⟩
set_option maxRecDepth 20000 in
theorem m_L_101 : mCv RL 101 iX6_hardest 0 := ⟨⟨bw 667 (by decide +kernel) rfl, bw 18 (by decide +kernel) rfl, ⟨by decide +kernel, by decide +kernel⟩, by decide +kernel⟩, bw 664 (by decide +kernel) rfl, bw 665 (by decide +kernel) rfl, bw 666 (by decide +kernel) rfl⟩
set_option maxRecDepth 20000 in
theorem m_L_104 : mCv RL 104 iX6_results 0 := ⟨⟨bw 503 (by decide +kernel) rfl, bw 18 (by decide +kernel) rfl, ⟨by decide +kernel, by decide +kernel⟩, by decide +kernel⟩, bw 668 (by decide +kernel) rfl, bw 501 (by decide +kernel) rfl, bw 502 (by decide +kernel) rfl⟩
set_option maxRecDepth 20000 in
theorem m_L_107 : mCv RL 107 iX6_queryLength 0 := ⟨⟨bw 672 (by decide +kernel) rfl, bw 18 (by decide +kernel) rfl, ⟨by decide +kernel, by decide +kernel⟩, by decide +kernel⟩, bw 669 (by decide +kernel) rfl, bw 670 (by decide +kernel) rfl, bw 671 (by decide +kernel) rfl⟩
set_option maxRecDepth 20000 in
theorem m_L_110 : mCi RL 110 iX6_init 0 := ⟨⟨bw 38 (by decide +kernel) rfl, bw 18 (by decide +kernel) rfl, ⟨by decide +kernel, by decide +kernel⟩, by decide +kernel⟩, bw 36 (by decide +kernel) rfl, bw 37 (by decide +kernel) rfl, rfl, rfl⟩
set_option maxRecDepth 20000 in
theorem m_L_111 : mCs RL 111 iL_cell 2 := ⟨⟨bw 558 (by decide +kernel) rfl, bw 17 (by decide +kernel) rfl, ⟨by decide +kernel, by decide +kernel⟩, by decide +kernel⟩, bw 556 (by decide +kernel) rfl, bw 557 (by decide +kernel) rfl⟩
set_option maxRecDepth 20000 in
theorem m_L_115 : mCs RL 115 iL_made 2 := ⟨⟨bw 675 (by decide +kernel) rfl, bw 17 (by decide +kernel) rfl, ⟨by decide +kernel, by decide +kernel⟩, by decide +kernel⟩, bw 673 (by decide +kernel) rfl, bw 674 (by decide +kernel) rfl⟩
set_option maxRecDepth 20000 in
theorem m_L_119 : mCv RL 119 iX6_type 1 := ⟨⟨bw 213 (by decide +kernel) rfl, bw 18 (by decide +kernel) rfl, ⟨by decide +kernel, by decide +kernel⟩, by decide +kernel⟩, bw 210 (by decide +kernel) rfl, bw 211 (by decide +kernel) rfl, bw 212 (by decide +kernel) rfl⟩
set_option maxRecDepth 20000 in
theorem m_L_122 : mCv RL 122 iX6_ifAdded 0 := ⟨⟨bw 415 (by decide +kernel) rfl, bw 18 (by decide +kernel) rfl, ⟨by decide +kernel, by decide +kernel⟩, by decide +kernel⟩, bw 412 (by decide +kernel) rfl, bw 413 (by decide +kernel) rfl, bw 414 (by decide +kernel) rfl⟩
set_option maxRecDepth 20000 in
theorem m_L_125 : mCv RL 125 iX6_add 0 := ⟨⟨bw 229 (by decide +kernel) rfl, bw 18 (by decide +kernel) rfl, ⟨by decide +kernel, by decide +kernel⟩, by decide +kernel⟩, bw 226 (by decide +kernel) rfl, bw 227 (by decide +kernel) rfl, bw 228 (by decide +kernel) rfl⟩
set_option maxRecDepth 20000 in
theorem m_L_128 : mCv RL 128 iX6_clearText 0 := ⟨⟨bw 221 (by decide +kernel) rfl, bw 18 (by decide +kernel) rfl, ⟨by decide +kernel, by decide +kernel⟩, by decide +kernel⟩, bw 218 (by decide +kernel) rfl, bw 219 (by decide +kernel) rfl, bw 220 (by decide +kernel) rfl⟩
set_option maxRecDepth 20000 in
theorem m_L_131 : mCv RL 131 iX6_drop 1 := ⟨⟨bw 394 (by decide +kernel) rfl, bw 18 (by decide +kernel) rfl, ⟨by decide +kernel, by decide +kernel⟩, by decide +kernel⟩, bw 391 (by decide +kernel) rfl, bw 392 (by decide +kernel) rfl, bw 393 (by decide +kernel) rfl⟩
set_option maxRecDepth 20000 in
theorem m_L_134 : mCv RL 134 iX6_setMode 1 := ⟨⟨bw 482 (by decide +kernel) rfl, bw 18 (by decide +kernel) rfl, ⟨by decide +kernel, by decide +kernel⟩, by decide +kernel⟩, bw 479 (by decide +kernel) rfl, bw 480 (by decide +kernel) rfl, bw 481 (by decide +kernel) rfl⟩
set_option maxRecDepth 20000 in
theorem m_L_137 : mCv RL 137 iX6_setOrder 1 := ⟨⟨bw 486 (by decide +kernel) rfl, bw 18 (by decide +kernel) rfl, ⟨by decide +kernel, by decide +kernel⟩, by decide +kernel⟩, bw 483 (by decide +kernel) rfl, bw 484 (by decide +kernel) rfl, bw 485 (by decide +kernel) rfl⟩
set_option maxRecDepth 20000 in
theorem m_L_140 : mCv RL 140 iX6_ask 1 := ⟨⟨bw 490 (by decide +kernel) rfl, bw 18 (by decide +kernel) rfl, ⟨by decide +kernel, by decide +kernel⟩, by decide +kernel⟩, bw 487 (by decide +kernel) rfl, bw 488 (by decide +kernel) rfl, bw 489 (by decide +kernel) rfl⟩
set_option maxRecDepth 20000 in
theorem m_L_143 : mCv RL 143 iX6_erase 0 := ⟨⟨bw 528 (by decide +kernel) rfl, bw 18 (by decide +kernel) rfl, ⟨by decide +kernel, by decide +kernel⟩, by decide +kernel⟩, bw 525 (by decide +kernel) rfl, bw 526 (by decide +kernel) rfl, bw 527 (by decide +kernel) rfl⟩
set_option maxRecDepth 20000 in
theorem m_L_146 : mCv RL 146 iX6_pick 1 := ⟨⟨bw 532 (by decide +kernel) rfl, bw 18 (by decide +kernel) rfl, ⟨by decide +kernel, by decide +kernel⟩, by decide +kernel⟩, bw 529 (by decide +kernel) rfl, bw 530 (by decide +kernel) rfl, bw 531 (by decide +kernel) rfl⟩
set_option maxRecDepth 20000 in
theorem m_L_149 : mCs RL 149 iL_same 5 := ⟨⟨bw 601 (by rfl) rfl, bw 17 (by decide +kernel) rfl, ⟨by decide +kernel, by decide +kernel⟩, by decide +kernel⟩, bw 599 (by decide +kernel) rfl, bw 600 (by decide +kernel) rfl⟩
set_option maxRecDepth 20000 in
theorem mm_X0_29 : mMath RX0 29 Lib.Math.min.name Lib.Math.min.code := ⟨bw 384 (by decide +kernel) rfl, bw 377 (by decide +kernel) rfl, bw 27 (by decide +kernel) rfl, bw 378 (by decide +kernel) rfl⟩
set_option maxRecDepth 20000 in
theorem mm_X3_66 : mMath RX3 66 Lib.Math.min.name Lib.Math.min.code := ⟨bw 453 (by decide +kernel) rfl, bw 377 (by decide +kernel) rfl, bw 27 (by decide +kernel) rfl, bw 378 (by decide +kernel) rfl⟩
set_option maxRecDepth 20000 in
theorem mm_X3_93 : mMath RX3 93 Lib.Math.max.name Lib.Math.max.code := ⟨bw 452 (by decide +kernel) rfl, bw 257 (by decide +kernel) rfl, bw 27 (by decide +kernel) rfl, bw 258 (by decide +kernel) rfl⟩
set_option maxRecDepth 20000 in
theorem mm_X4_81 : mMath RX4 81 Lib.Math.max.name Lib.Math.max.code := ⟨bw 256 (by decide +kernel) rfl, bw 257 (by decide +kernel) rfl, bw 27 (by decide +kernel) rfl, bw 258 (by decide +kernel) rfl⟩
set_option maxRecDepth 20000 in
theorem mm_X5_45 : mMath RX5 45 Lib.Math.max.name Lib.Math.max.code := ⟨bw 627 (by decide +kernel) rfl, bw 257 (by decide +kernel) rfl, bw 27 (by decide +kernel) rfl, bw 258 (by decide +kernel) rfl⟩
set_option maxRecDepth 20000 in
theorem mm_Jx4a65c_79 : mMath RJx4a65c 79 Lib.Math.max.name Lib.Math.max.code := ⟨bw 382 (by decide +kernel) rfl, bw 257 (by decide +kernel) rfl, bw 27 (by decide +kernel) rfl, bw 258 (by decide +kernel) rfl⟩
set_option maxRecDepth 20000 in
theorem mm_J7_304 : mMath RJ7 304 Lib.Math.min.name Lib.Math.min.code := ⟨bw 376 (by decide +kernel) rfl, bw 377 (by decide +kernel) rfl, bw 27 (by decide +kernel) rfl, bw 378 (by decide +kernel) rfl⟩
set_option maxRecDepth 20000 in
theorem mm_J8_194 : mMath RJ8 194 Lib.Math.max.name Lib.Math.max.code := ⟨bw 350 (by decide +kernel) rfl, bw 257 (by decide +kernel) rfl, bw 27 (by decide +kernel) rfl, bw 258 (by decide +kernel) rfl⟩
set_option maxRecDepth 20000 in
theorem l_L_10 : Cond.constantLong RL 10 (31) ∈ BIG := bw 571 (by decide +kernel) rfl
set_option maxRecDepth 20000 in
theorem cc_L_7 : Cond.constant RL 7 (1033861973) ∈ BIG := bw 559 (by decide +kernel) rfl
set_option maxRecDepth 20000 in
theorem cc_L_8 : Cond.constant RL 8 (650699943) ∈ BIG := bw 560 (by decide +kernel) rfl
set_option maxRecDepth 20000 in
theorem cc_L_9 : Cond.constant RL 9 (2147483647) ∈ BIG := bw 564 (by decide +kernel) rfl
set_option maxRecDepth 20000 in
theorem k_X0_9 : Cond.classLink RX0 9 "TitleFinder$State" ∈ BIG := bw 105 (by decide +kernel) rfl
set_option maxRecDepth 20000 in
theorem k_X2_33 : Cond.classLink RX2 33 "TitleFinder$Title" ∈ BIG := bw 311 (by decide +kernel) rfl
set_option maxRecDepth 20000 in
theorem k_X3_9 : Cond.classLink RX3 9 "[[I" ∈ BIG := bw 169 (by decide +kernel) rfl
set_option maxRecDepth 20000 in
theorem k_X3_45 : Cond.classLink RX3 45 "TitleFinder$Title" ∈ BIG := bw 427 (by decide +kernel) rfl
set_option maxRecDepth 20000 in
theorem k_X6_142 : Cond.classLink RX6 142 "TitleFinder$Title" ∈ BIG := bw 547 (by decide +kernel) rfl
set_option maxRecDepth 20000 in
theorem k_Jx4a65c_7 : Cond.classLink RJx4a65c 7 "java/lang/Object" ∈ BIG := bw 383 (by decide +kernel) rfl
set_option maxRecDepth 20000 in
theorem k_J7_2 : Cond.classLink RJ7 2 "java/lang/Object" ∈ BIG := bw 375 (by decide +kernel) rfl
set_option maxRecDepth 20000 in
theorem k_J7_110 : Cond.classLink RJ7 110 "[Ljava/lang/Object;" ∈ BIG := bw 373 (by decide +kernel) rfl
set_option maxRecDepth 20000 in
theorem ac_int : Cond.arrayClass .int ∈ BIG := bw 162 (by decide +kernel) rfl
set_option maxRecDepth 20000 in
theorem ac_char : Cond.arrayClass .char ∈ BIG := bw 98 (by decide +kernel) rfl
set_option maxRecDepth 20000 in
theorem ac_long : Cond.arrayClass .long ∈ BIG := bw 676 (by decide +kernel) rfl
set_option maxRecDepth 20000 in
theorem oi_inst : Cond.instanceMethod objectInit ∈ BIG := bw 40 (by decide +kernel) rfl
set_option maxRecDepth 20000 in
theorem oi_code : Cond.code objectInit ⟨#[0xb1]⟩ 1 none ∈ BIG := bw 41 (by decide +kernel) rfl
set_option maxRecDepth 20000 in
theorem oi_X6_1 : Cond.methodLink RX6 1 objectInit ∈ BIG := bw 39 (by decide +kernel) rfl
set_option maxRecDepth 20000 in
theorem oi_X0_3 : Cond.methodLink RX0 3 objectInit ∈ BIG := bw 104 (by decide +kernel) rfl
set_option maxRecDepth 20000 in
theorem oi_X1_3 : Cond.methodLink RX1 3 objectInit ∈ BIG := bw 150 (by decide +kernel) rfl
set_option maxRecDepth 20000 in
theorem oi_X2_3 : Cond.methodLink RX2 3 objectInit ∈ BIG := bw 47 (by decide +kernel) rfl
set_option maxRecDepth 20000 in
theorem oi_X3_3 : Cond.methodLink RX3 3 objectInit ∈ BIG := bw 168 (by decide +kernel) rfl
set_option maxRecDepth 20000 in
theorem oi_X4_3 : Cond.methodLink RX4 3 objectInit ∈ BIG := bw 123 (by decide +kernel) rfl
set_option maxRecDepth 20000 in
theorem oi_X5_3 : Cond.methodLink RX5 3 objectInit ∈ BIG := bw 273 (by decide +kernel) rfl
set_option maxRecDepth 20000 in
theorem oi_Jxa1e45_1 : Cond.methodLink RJxa1e45 1 objectInit ∈ BIG := bw 59 (by decide +kernel) rfl
