theorem dX0_init_0 : decode cX0_init 0 = .ok (.aload_n 0, 1) := by decide +kernel
theorem dX0_init_1 : decode cX0_init 1 = .ok (.invokespecial 3, 3) := by decide +kernel
theorem dX0_init_4 : decode cX0_init 4 = .ok (.aload_n 0, 1) := by decide +kernel
theorem dX0_init_5 : decode cX0_init 5 = .ok (.bipush 6, 2) := by decide +kernel
theorem dX0_init_7 : decode cX0_init 7 = .ok (.anewarray 9, 3) := by decide +kernel
theorem dX0_init_10 : decode cX0_init 10 = .ok (.putfield 11, 3) := by decide +kernel
theorem dX0_init_13 : decode cX0_init 13 = .ok (.iconst 0, 1) := by decide +kernel
theorem dX0_init_14 : decode cX0_init 14 = .ok (.istore_n 1, 1) := by decide +kernel
theorem dX0_init_15 : decode cX0_init 15 = .ok (.iload_n 1, 1) := by decide +kernel
theorem dX0_init_16 : decode cX0_init 16 = .ok (.aload_n 0, 1) := by decide +kernel
theorem dX0_init_17 : decode cX0_init 17 = .ok (.getfield 11, 3) := by decide +kernel
theorem dX0_init_20 : decode cX0_init 20 = .ok (.arraylength, 1) := by decide +kernel
theorem dX0_init_21 : decode cX0_init 21 = .ok (.if_icmp .ge 22, 3) := by decide +kernel
theorem dX0_init_24 : decode cX0_init 24 = .ok (.aload_n 0, 1) := by decide +kernel
theorem dX0_init_25 : decode cX0_init 25 = .ok (.getfield 11, 3) := by decide +kernel
theorem dX0_init_28 : decode cX0_init 28 = .ok (.iload_n 1, 1) := by decide +kernel
theorem dX0_init_29 : decode cX0_init 29 = .ok (.new 9, 3) := by decide +kernel
theorem dX0_init_32 : decode cX0_init 32 = .ok (.dup, 1) := by decide +kernel
theorem dX0_init_33 : decode cX0_init 33 = .ok (.invokespecial 17, 3) := by decide +kernel
theorem dX0_init_36 : decode cX0_init 36 = .ok (.aastore, 1) := by decide +kernel
theorem dX0_init_37 : decode cX0_init 37 = .ok (.iinc 1 1, 3) := by decide +kernel
theorem dX0_init_40 : decode cX0_init 40 = .ok (.goto (-25), 3) := by decide +kernel
theorem dX0_init_43 : decode cX0_init 43 = .ok (.return_, 1) := by decide +kernel
theorem dX0_save_0 : decode cX0_save 0 = .ok (.aload_n 0, 1) := by decide +kernel
theorem dX0_save_1 : decode cX0_save 1 = .ok (.aload_n 0, 1) := by decide +kernel
theorem dX0_save_2 : decode cX0_save 2 = .ok (.getfield 18, 3) := by decide +kernel
theorem dX0_save_5 : decode cX0_save 5 = .ok (.iconst 1, 1) := by decide +kernel
theorem dX0_save_6 : decode cX0_save 6 = .ok (.iadd, 1) := by decide +kernel
theorem dX0_save_7 : decode cX0_save 7 = .ok (.aload_n 0, 1) := by decide +kernel
theorem dX0_save_8 : decode cX0_save 8 = .ok (.getfield 11, 3) := by decide +kernel
theorem dX0_save_11 : decode cX0_save 11 = .ok (.arraylength, 1) := by decide +kernel
theorem dX0_save_12 : decode cX0_save 12 = .ok (.if_icmp .ge 12, 3) := by decide +kernel
theorem dX0_save_15 : decode cX0_save 15 = .ok (.aload_n 0, 1) := by decide +kernel
theorem dX0_save_16 : decode cX0_save 16 = .ok (.getfield 18, 3) := by decide +kernel
theorem dX0_save_19 : decode cX0_save 19 = .ok (.iconst 1, 1) := by decide +kernel
theorem dX0_save_20 : decode cX0_save 20 = .ok (.iadd, 1) := by decide +kernel
theorem dX0_save_21 : decode cX0_save 21 = .ok (.goto 4, 3) := by decide +kernel
theorem dX0_save_24 : decode cX0_save 24 = .ok (.iconst 0, 1) := by decide +kernel
theorem dX0_save_25 : decode cX0_save 25 = .ok (.putfield 18, 3) := by decide +kernel
theorem dX0_save_28 : decode cX0_save 28 = .ok (.aload_n 0, 1) := by decide +kernel
theorem dX0_save_29 : decode cX0_save 29 = .ok (.getfield 11, 3) := by decide +kernel
theorem dX0_save_32 : decode cX0_save 32 = .ok (.aload_n 0, 1) := by decide +kernel
theorem dX0_save_33 : decode cX0_save 33 = .ok (.getfield 18, 3) := by decide +kernel
theorem dX0_save_36 : decode cX0_save 36 = .ok (.aaload, 1) := by decide +kernel
theorem dX0_save_37 : decode cX0_save 37 = .ok (.aload_n 1, 1) := by decide +kernel
theorem dX0_save_38 : decode cX0_save 38 = .ok (.invokevirtual 22, 3) := by decide +kernel
theorem dX0_save_41 : decode cX0_save 41 = .ok (.aload_n 0, 1) := by decide +kernel
theorem dX0_save_42 : decode cX0_save 42 = .ok (.aload_n 0, 1) := by decide +kernel
theorem dX0_save_43 : decode cX0_save 43 = .ok (.getfield 26, 3) := by decide +kernel
theorem dX0_save_46 : decode cX0_save 46 = .ok (.iconst 1, 1) := by decide +kernel
theorem dX0_save_47 : decode cX0_save 47 = .ok (.iadd, 1) := by decide +kernel
theorem dX0_save_48 : decode cX0_save 48 = .ok (.aload_n 0, 1) := by decide +kernel
theorem dX0_save_49 : decode cX0_save 49 = .ok (.getfield 11, 3) := by decide +kernel
theorem dX0_save_52 : decode cX0_save 52 = .ok (.arraylength, 1) := by decide +kernel
theorem dX0_save_53 : decode cX0_save 53 = .ok (.invokestatic 29, 3) := by decide +kernel
theorem dX0_save_56 : decode cX0_save 56 = .ok (.putfield 26, 3) := by decide +kernel
theorem dX0_save_59 : decode cX0_save 59 = .ok (.return_, 1) := by decide +kernel
theorem dX1_init_0 : decode cX1_init 0 = .ok (.aload_n 0, 1) := by decide +kernel
theorem dX1_init_1 : decode cX1_init 1 = .ok (.invokespecial 3, 3) := by decide +kernel
theorem dX1_init_4 : decode cX1_init 4 = .ok (.aload_n 0, 1) := by decide +kernel
theorem dX1_init_5 : decode cX1_init 5 = .ok (.bipush 16, 2) := by decide +kernel
theorem dX1_init_7 : decode cX1_init 7 = .ok (.newarray .int, 2) := by decide +kernel
theorem dX1_init_9 : decode cX1_init 9 = .ok (.putfield 9, 3) := by decide +kernel
theorem dX1_init_12 : decode cX1_init 12 = .ok (.aload_n 0, 1) := by decide +kernel
theorem dX1_init_13 : decode cX1_init 13 = .ok (.bipush 16, 2) := by decide +kernel
theorem dX1_init_15 : decode cX1_init 15 = .ok (.newarray .int, 2) := by decide +kernel
theorem dX1_init_17 : decode cX1_init 17 = .ok (.putfield 15, 3) := by decide +kernel
theorem dX1_init_20 : decode cX1_init 20 = .ok (.return_, 1) := by decide +kernel
theorem dX1_rank_0 : decode cX1_rank 0 = .ok (.aload_n 0, 1) := by decide +kernel
theorem dX1_rank_1 : decode cX1_rank 1 = .ok (.iconst 0, 1) := by decide +kernel
theorem dX1_rank_2 : decode cX1_rank 2 = .ok (.putfield 18, 3) := by decide +kernel
theorem dX1_rank_5 : decode cX1_rank 5 = .ok (.iconst 0, 1) := by decide +kernel
theorem dX1_rank_6 : decode cX1_rank 6 = .ok (.istore_n 2, 1) := by decide +kernel
theorem dX1_rank_7 : decode cX1_rank 7 = .ok (.iload_n 2, 1) := by decide +kernel
theorem dX1_rank_8 : decode cX1_rank 8 = .ok (.aload_n 1, 1) := by decide +kernel
theorem dX1_rank_9 : decode cX1_rank 9 = .ok (.getfield 22, 3) := by decide +kernel
theorem dX1_rank_12 : decode cX1_rank 12 = .ok (.invokevirtual 28, 3) := by decide +kernel
theorem dX1_rank_15 : decode cX1_rank 15 = .ok (.if_icmp .ge 38, 3) := by decide +kernel
theorem dX1_rank_18 : decode cX1_rank 18 = .ok (.aload_n 1, 1) := by decide +kernel
theorem dX1_rank_19 : decode cX1_rank 19 = .ok (.iload_n 2, 1) := by decide +kernel
theorem dX1_rank_20 : decode cX1_rank 20 = .ok (.invokevirtual 34, 3) := by decide +kernel
theorem dX1_rank_23 : decode cX1_rank 23 = .ok (.istore_n 3, 1) := by decide +kernel
theorem dX1_rank_24 : decode cX1_rank 24 = .ok (.iload_n 3, 1) := by decide +kernel
theorem dX1_rank_25 : decode cX1_rank 25 = .ok (.ifCond .lt 22, 3) := by decide +kernel
theorem dX1_rank_28 : decode cX1_rank 28 = .ok (.aload_n 0, 1) := by decide +kernel
theorem dX1_rank_29 : decode cX1_rank 29 = .ok (.getfield 18, 3) := by decide +kernel
theorem dX1_rank_32 : decode cX1_rank 32 = .ok (.aload_n 0, 1) := by decide +kernel
theorem dX1_rank_33 : decode cX1_rank 33 = .ok (.getfield 9, 3) := by decide +kernel
theorem dX1_rank_36 : decode cX1_rank 36 = .ok (.arraylength, 1) := by decide +kernel
theorem dX1_rank_37 : decode cX1_rank 37 = .ok (.if_icmp .ge 10, 3) := by decide +kernel
theorem dX1_rank_40 : decode cX1_rank 40 = .ok (.aload_n 0, 1) := by decide +kernel
theorem dX1_rank_41 : decode cX1_rank 41 = .ok (.aload_n 1, 1) := by decide +kernel
theorem dX1_rank_42 : decode cX1_rank 42 = .ok (.iload_n 2, 1) := by decide +kernel
theorem dX1_rank_43 : decode cX1_rank 43 = .ok (.iload_n 3, 1) := by decide +kernel
theorem dX1_rank_44 : decode cX1_rank 44 = .ok (.invokevirtual 38, 3) := by decide +kernel
theorem dX1_rank_47 : decode cX1_rank 47 = .ok (.iinc 2 1, 3) := by decide +kernel
theorem dX1_rank_50 : decode cX1_rank 50 = .ok (.goto (-43), 3) := by decide +kernel
theorem dX1_rank_53 : decode cX1_rank 53 = .ok (.return_, 1) := by decide +kernel
theorem dX1_insert_0 : decode cX1_insert 0 = .ok (.aload_n 0, 1) := by decide +kernel
theorem dX1_insert_1 : decode cX1_insert 1 = .ok (.getfield 18, 3) := by decide +kernel
theorem dX1_insert_4 : decode cX1_insert 4 = .ok (.istore 4, 2) := by decide +kernel
theorem dX1_insert_6 : decode cX1_insert 6 = .ok (.iload 4, 2) := by decide +kernel
theorem dX1_insert_8 : decode cX1_insert 8 = .ok (.ifCond .le 68, 3) := by decide +kernel
theorem dX1_insert_11 : decode cX1_insert 11 = .ok (.aload_n 1, 1) := by decide +kernel
theorem dX1_insert_12 : decode cX1_insert 12 = .ok (.iload_n 2, 1) := by decide +kernel
theorem dX1_insert_13 : decode cX1_insert 13 = .ok (.iload_n 3, 1) := by decide +kernel
theorem dX1_insert_14 : decode cX1_insert 14 = .ok (.aload_n 0, 1) := by decide +kernel
theorem dX1_insert_15 : decode cX1_insert 15 = .ok (.getfield 9, 3) := by decide +kernel
theorem dX1_insert_18 : decode cX1_insert 18 = .ok (.iload 4, 2) := by decide +kernel
theorem dX1_insert_20 : decode cX1_insert 20 = .ok (.iconst 1, 1) := by decide +kernel
theorem dX1_insert_21 : decode cX1_insert 21 = .ok (.isub, 1) := by decide +kernel
theorem dX1_insert_22 : decode cX1_insert 22 = .ok (.iaload, 1) := by decide +kernel
theorem dX1_insert_23 : decode cX1_insert 23 = .ok (.aload_n 0, 1) := by decide +kernel
theorem dX1_insert_24 : decode cX1_insert 24 = .ok (.getfield 15, 3) := by decide +kernel
theorem dX1_insert_27 : decode cX1_insert 27 = .ok (.iload 4, 2) := by decide +kernel
theorem dX1_insert_29 : decode cX1_insert 29 = .ok (.iconst 1, 1) := by decide +kernel
theorem dX1_insert_30 : decode cX1_insert 30 = .ok (.isub, 1) := by decide +kernel
theorem dX1_insert_31 : decode cX1_insert 31 = .ok (.iaload, 1) := by decide +kernel
theorem dX1_insert_32 : decode cX1_insert 32 = .ok (.invokevirtual 42, 3) := by decide +kernel
theorem dX1_insert_35 : decode cX1_insert 35 = .ok (.ifCond .eq 41, 3) := by decide +kernel
theorem dX1_insert_38 : decode cX1_insert 38 = .ok (.aload_n 0, 1) := by decide +kernel
theorem dX1_insert_39 : decode cX1_insert 39 = .ok (.getfield 9, 3) := by decide +kernel
theorem dX1_insert_42 : decode cX1_insert 42 = .ok (.iload 4, 2) := by decide +kernel
theorem dX1_insert_44 : decode cX1_insert 44 = .ok (.aload_n 0, 1) := by decide +kernel
theorem dX1_insert_45 : decode cX1_insert 45 = .ok (.getfield 9, 3) := by decide +kernel
theorem dX1_insert_48 : decode cX1_insert 48 = .ok (.iload 4, 2) := by decide +kernel
theorem dX1_insert_50 : decode cX1_insert 50 = .ok (.iconst 1, 1) := by decide +kernel
theorem dX1_insert_51 : decode cX1_insert 51 = .ok (.isub, 1) := by decide +kernel
theorem dX1_insert_52 : decode cX1_insert 52 = .ok (.iaload, 1) := by decide +kernel
theorem dX1_insert_53 : decode cX1_insert 53 = .ok (.iastore, 1) := by decide +kernel
theorem dX1_insert_54 : decode cX1_insert 54 = .ok (.aload_n 0, 1) := by decide +kernel
theorem dX1_insert_55 : decode cX1_insert 55 = .ok (.getfield 15, 3) := by decide +kernel
theorem dX1_insert_58 : decode cX1_insert 58 = .ok (.iload 4, 2) := by decide +kernel
theorem dX1_insert_60 : decode cX1_insert 60 = .ok (.aload_n 0, 1) := by decide +kernel
theorem dX1_insert_61 : decode cX1_insert 61 = .ok (.getfield 15, 3) := by decide +kernel
theorem dX1_insert_64 : decode cX1_insert 64 = .ok (.iload 4, 2) := by decide +kernel
theorem dX1_insert_66 : decode cX1_insert 66 = .ok (.iconst 1, 1) := by decide +kernel
theorem dX1_insert_67 : decode cX1_insert 67 = .ok (.isub, 1) := by decide +kernel
theorem dX1_insert_68 : decode cX1_insert 68 = .ok (.iaload, 1) := by decide +kernel
theorem dX1_insert_69 : decode cX1_insert 69 = .ok (.iastore, 1) := by decide +kernel
theorem dX1_insert_70 : decode cX1_insert 70 = .ok (.iinc 4 (-1), 3) := by decide +kernel
theorem dX1_insert_73 : decode cX1_insert 73 = .ok (.goto (-67), 3) := by decide +kernel
theorem dX1_insert_76 : decode cX1_insert 76 = .ok (.aload_n 0, 1) := by decide +kernel
theorem dX1_insert_77 : decode cX1_insert 77 = .ok (.getfield 9, 3) := by decide +kernel
theorem dX1_insert_80 : decode cX1_insert 80 = .ok (.iload 4, 2) := by decide +kernel
theorem dX1_insert_82 : decode cX1_insert 82 = .ok (.iload_n 2, 1) := by decide +kernel
theorem dX1_insert_83 : decode cX1_insert 83 = .ok (.iastore, 1) := by decide +kernel
theorem dX1_insert_84 : decode cX1_insert 84 = .ok (.aload_n 0, 1) := by decide +kernel
theorem dX1_insert_85 : decode cX1_insert 85 = .ok (.getfield 15, 3) := by decide +kernel
theorem dX1_insert_88 : decode cX1_insert 88 = .ok (.iload 4, 2) := by decide +kernel
theorem dX1_insert_90 : decode cX1_insert 90 = .ok (.iload_n 3, 1) := by decide +kernel
theorem dX1_insert_91 : decode cX1_insert 91 = .ok (.iastore, 1) := by decide +kernel
theorem dX1_insert_92 : decode cX1_insert 92 = .ok (.aload_n 0, 1) := by decide +kernel
theorem dX1_insert_93 : decode cX1_insert 93 = .ok (.dup, 1) := by decide +kernel
theorem dX1_insert_94 : decode cX1_insert 94 = .ok (.getfield 18, 3) := by decide +kernel
theorem dX1_insert_97 : decode cX1_insert 97 = .ok (.iconst 1, 1) := by decide +kernel
theorem dX1_insert_98 : decode cX1_insert 98 = .ok (.iadd, 1) := by decide +kernel
theorem dX1_insert_99 : decode cX1_insert 99 = .ok (.putfield 18, 3) := by decide +kernel
theorem dX1_insert_102 : decode cX1_insert 102 = .ok (.return_, 1) := by decide +kernel
theorem dX1_has_0 : decode cX1_has 0 = .ok (.iload_n 1, 1) := by decide +kernel
theorem dX1_has_1 : decode cX1_has 1 = .ok (.ifCond .lt 24, 3) := by decide +kernel
theorem dX1_has_4 : decode cX1_has 4 = .ok (.iload_n 1, 1) := by decide +kernel
theorem dX1_has_5 : decode cX1_has 5 = .ok (.aload_n 0, 1) := by decide +kernel
theorem dX1_has_6 : decode cX1_has 6 = .ok (.getfield 18, 3) := by decide +kernel
theorem dX1_has_9 : decode cX1_has 9 = .ok (.if_icmp .ge 16, 3) := by decide +kernel
theorem dX1_has_12 : decode cX1_has 12 = .ok (.iload_n 1, 1) := by decide +kernel
theorem dX1_has_13 : decode cX1_has 13 = .ok (.aload_n 0, 1) := by decide +kernel
theorem dX1_has_14 : decode cX1_has 14 = .ok (.getfield 9, 3) := by decide +kernel
theorem dX1_has_17 : decode cX1_has 17 = .ok (.arraylength, 1) := by decide +kernel
theorem dX1_has_18 : decode cX1_has 18 = .ok (.if_icmp .ge 7, 3) := by decide +kernel
theorem dX1_has_21 : decode cX1_has 21 = .ok (.iconst 1, 1) := by decide +kernel
theorem dX1_has_22 : decode cX1_has 22 = .ok (.goto 4, 3) := by decide +kernel
theorem dX1_has_25 : decode cX1_has 25 = .ok (.iconst 0, 1) := by decide +kernel
theorem dX1_has_26 : decode cX1_has 26 = .ok (.ireturn, 1) := by decide +kernel
theorem dX1_titleAt_0 : decode cX1_titleAt 0 = .ok (.aload_n 0, 1) := by decide +kernel
theorem dX1_titleAt_1 : decode cX1_titleAt 1 = .ok (.iload_n 1, 1) := by decide +kernel
theorem dX1_titleAt_2 : decode cX1_titleAt 2 = .ok (.invokevirtual 46, 3) := by decide +kernel
theorem dX1_titleAt_5 : decode cX1_titleAt 5 = .ok (.ifCond .eq 12, 3) := by decide +kernel
theorem dX1_titleAt_8 : decode cX1_titleAt 8 = .ok (.aload_n 0, 1) := by decide +kernel
theorem dX1_titleAt_9 : decode cX1_titleAt 9 = .ok (.getfield 9, 3) := by decide +kernel
theorem dX1_titleAt_12 : decode cX1_titleAt 12 = .ok (.iload_n 1, 1) := by decide +kernel
theorem dX1_titleAt_13 : decode cX1_titleAt 13 = .ok (.iaload, 1) := by decide +kernel
theorem dX1_titleAt_14 : decode cX1_titleAt 14 = .ok (.goto 4, 3) := by decide +kernel
theorem dX1_titleAt_17 : decode cX1_titleAt 17 = .ok (.iconst (-1), 1) := by decide +kernel
theorem dX1_titleAt_18 : decode cX1_titleAt 18 = .ok (.ireturn, 1) := by decide +kernel
theorem dX1_placeAt_0 : decode cX1_placeAt 0 = .ok (.aload_n 0, 1) := by decide +kernel
theorem dX1_placeAt_1 : decode cX1_placeAt 1 = .ok (.iload_n 1, 1) := by decide +kernel
theorem dX1_placeAt_2 : decode cX1_placeAt 2 = .ok (.invokevirtual 46, 3) := by decide +kernel
theorem dX1_placeAt_5 : decode cX1_placeAt 5 = .ok (.ifCond .eq 12, 3) := by decide +kernel
theorem dX1_placeAt_8 : decode cX1_placeAt 8 = .ok (.aload_n 0, 1) := by decide +kernel
theorem dX1_placeAt_9 : decode cX1_placeAt 9 = .ok (.getfield 15, 3) := by decide +kernel
theorem dX1_placeAt_12 : decode cX1_placeAt 12 = .ok (.iload_n 1, 1) := by decide +kernel
theorem dX1_placeAt_13 : decode cX1_placeAt 13 = .ok (.iaload, 1) := by decide +kernel
theorem dX1_placeAt_14 : decode cX1_placeAt 14 = .ok (.goto 4, 3) := by decide +kernel
theorem dX1_placeAt_17 : decode cX1_placeAt 17 = .ok (.iconst (-1), 1) := by decide +kernel
theorem dX1_placeAt_18 : decode cX1_placeAt 18 = .ok (.ireturn, 1) := by decide +kernel
theorem dX2_init_0 : decode cX2_init 0 = .ok (.aload_n 0, 1) := by decide +kernel
theorem dX2_init_1 : decode cX2_init 1 = .ok (.invokespecial 3, 3) := by decide +kernel
theorem dX2_init_4 : decode cX2_init 4 = .ok (.aload_n 0, 1) := by decide +kernel
theorem dX2_init_5 : decode cX2_init 5 = .ok (.new 9, 3) := by decide +kernel
theorem dX2_init_8 : decode cX2_init 8 = .ok (.dup, 1) := by decide +kernel
theorem dX2_init_9 : decode cX2_init 9 = .ok (.invokespecial 11, 3) := by decide +kernel
theorem dX2_init_12 : decode cX2_init 12 = .ok (.putfield 12, 3) := by decide +kernel
theorem dX2_init_15 : decode cX2_init 15 = .ok (.aload_n 0, 1) := by decide +kernel
theorem dX2_init_16 : decode cX2_init 16 = .ok (.bipush 24, 2) := by decide +kernel
theorem dX2_init_18 : decode cX2_init 18 = .ok (.newarray .char, 2) := by decide +kernel
theorem dX2_init_20 : decode cX2_init 20 = .ok (.putfield 18, 3) := by decide +kernel
theorem dX2_init_23 : decode cX2_init 23 = .ok (.return_, 1) := by decide +kernel
theorem dX2_copyFrom_0 : decode cX2_copyFrom 0 = .ok (.aload_n 0, 1) := by decide +kernel
theorem dX2_copyFrom_1 : decode cX2_copyFrom 1 = .ok (.getfield 12, 3) := by decide +kernel
theorem dX2_copyFrom_4 : decode cX2_copyFrom 4 = .ok (.invokevirtual 22, 3) := by decide +kernel
theorem dX2_copyFrom_7 : decode cX2_copyFrom 7 = .ok (.iconst 0, 1) := by decide +kernel
theorem dX2_copyFrom_8 : decode cX2_copyFrom 8 = .ok (.istore_n 2, 1) := by decide +kernel
theorem dX2_copyFrom_9 : decode cX2_copyFrom 9 = .ok (.iload_n 2, 1) := by decide +kernel
theorem dX2_copyFrom_10 : decode cX2_copyFrom 10 = .ok (.aload_n 1, 1) := by decide +kernel
theorem dX2_copyFrom_11 : decode cX2_copyFrom 11 = .ok (.getfield 12, 3) := by decide +kernel
theorem dX2_copyFrom_14 : decode cX2_copyFrom 14 = .ok (.invokevirtual 25, 3) := by decide +kernel
theorem dX2_copyFrom_17 : decode cX2_copyFrom 17 = .ok (.if_icmp .ge 28, 3) := by decide +kernel
theorem dX2_copyFrom_20 : decode cX2_copyFrom 20 = .ok (.aload_n 0, 1) := by decide +kernel
theorem dX2_copyFrom_21 : decode cX2_copyFrom 21 = .ok (.getfield 12, 3) := by decide +kernel
theorem dX2_copyFrom_24 : decode cX2_copyFrom 24 = .ok (.aload_n 1, 1) := by decide +kernel
theorem dX2_copyFrom_25 : decode cX2_copyFrom 25 = .ok (.getfield 12, 3) := by decide +kernel
theorem dX2_copyFrom_28 : decode cX2_copyFrom 28 = .ok (.iload_n 2, 1) := by decide +kernel
theorem dX2_copyFrom_29 : decode cX2_copyFrom 29 = .ok (.invokevirtual 29, 3) := by decide +kernel
theorem dX2_copyFrom_32 : decode cX2_copyFrom 32 = .ok (.checkcast 33, 3) := by decide +kernel
theorem dX2_copyFrom_35 : decode cX2_copyFrom 35 = .ok (.invokevirtual 35, 3) := by decide +kernel
theorem dX2_copyFrom_38 : decode cX2_copyFrom 38 = .ok (.pop, 1) := by decide +kernel
theorem dX2_copyFrom_39 : decode cX2_copyFrom 39 = .ok (.iinc 2 1, 3) := by decide +kernel
theorem dX2_copyFrom_42 : decode cX2_copyFrom 42 = .ok (.goto (-33), 3) := by decide +kernel
theorem dX2_copyFrom_45 : decode cX2_copyFrom 45 = .ok (.iconst 0, 1) := by decide +kernel
theorem dX2_copyFrom_46 : decode cX2_copyFrom 46 = .ok (.istore_n 2, 1) := by decide +kernel
theorem dX2_copyFrom_47 : decode cX2_copyFrom 47 = .ok (.iload_n 2, 1) := by decide +kernel
theorem dX2_copyFrom_48 : decode cX2_copyFrom 48 = .ok (.aload_n 0, 1) := by decide +kernel
theorem dX2_copyFrom_49 : decode cX2_copyFrom 49 = .ok (.getfield 18, 3) := by decide +kernel
theorem dX2_copyFrom_52 : decode cX2_copyFrom 52 = .ok (.arraylength, 1) := by decide +kernel
theorem dX2_copyFrom_53 : decode cX2_copyFrom 53 = .ok (.if_icmp .ge 30, 3) := by decide +kernel
theorem dX2_copyFrom_56 : decode cX2_copyFrom 56 = .ok (.iload_n 2, 1) := by decide +kernel
theorem dX2_copyFrom_57 : decode cX2_copyFrom 57 = .ok (.aload_n 1, 1) := by decide +kernel
theorem dX2_copyFrom_58 : decode cX2_copyFrom 58 = .ok (.getfield 18, 3) := by decide +kernel
theorem dX2_copyFrom_61 : decode cX2_copyFrom 61 = .ok (.arraylength, 1) := by decide +kernel
theorem dX2_copyFrom_62 : decode cX2_copyFrom 62 = .ok (.if_icmp .ge 21, 3) := by decide +kernel
theorem dX2_copyFrom_65 : decode cX2_copyFrom 65 = .ok (.aload_n 0, 1) := by decide +kernel
theorem dX2_copyFrom_66 : decode cX2_copyFrom 66 = .ok (.getfield 18, 3) := by decide +kernel
theorem dX2_copyFrom_69 : decode cX2_copyFrom 69 = .ok (.iload_n 2, 1) := by decide +kernel
theorem dX2_copyFrom_70 : decode cX2_copyFrom 70 = .ok (.aload_n 1, 1) := by decide +kernel
theorem dX2_copyFrom_71 : decode cX2_copyFrom 71 = .ok (.getfield 18, 3) := by decide +kernel
theorem dX2_copyFrom_74 : decode cX2_copyFrom 74 = .ok (.iload_n 2, 1) := by decide +kernel
theorem dX2_copyFrom_75 : decode cX2_copyFrom 75 = .ok (.caload, 1) := by decide +kernel
theorem dX2_copyFrom_76 : decode cX2_copyFrom 76 = .ok (.castore, 1) := by decide +kernel
theorem dX2_copyFrom_77 : decode cX2_copyFrom 77 = .ok (.iinc 2 1, 3) := by decide +kernel
theorem dX2_copyFrom_80 : decode cX2_copyFrom 80 = .ok (.goto (-33), 3) := by decide +kernel
theorem dX2_copyFrom_83 : decode cX2_copyFrom 83 = .ok (.aload_n 0, 1) := by decide +kernel
theorem dX2_copyFrom_84 : decode cX2_copyFrom 84 = .ok (.aload_n 1, 1) := by decide +kernel
theorem dX2_copyFrom_85 : decode cX2_copyFrom 85 = .ok (.getfield 39, 3) := by decide +kernel
theorem dX2_copyFrom_88 : decode cX2_copyFrom 88 = .ok (.putfield 39, 3) := by decide +kernel
theorem dX2_copyFrom_91 : decode cX2_copyFrom 91 = .ok (.aload_n 0, 1) := by decide +kernel
theorem dX2_copyFrom_92 : decode cX2_copyFrom 92 = .ok (.aload_n 1, 1) := by decide +kernel
theorem dX2_copyFrom_93 : decode cX2_copyFrom 93 = .ok (.getfield 43, 3) := by decide +kernel
theorem dX2_copyFrom_96 : decode cX2_copyFrom 96 = .ok (.putfield 43, 3) := by decide +kernel
theorem dX2_copyFrom_99 : decode cX2_copyFrom 99 = .ok (.aload_n 0, 1) := by decide +kernel
theorem dX2_copyFrom_100 : decode cX2_copyFrom 100 = .ok (.aload_n 1, 1) := by decide +kernel
theorem dX2_copyFrom_101 : decode cX2_copyFrom 101 = .ok (.getfield 46, 3) := by decide +kernel
theorem dX2_copyFrom_104 : decode cX2_copyFrom 104 = .ok (.putfield 46, 3) := by decide +kernel
theorem dX2_copyFrom_107 : decode cX2_copyFrom 107 = .ok (.return_, 1) := by decide +kernel
theorem dX2_has_0 : decode cX2_has 0 = .ok (.iload_n 1, 1) := by decide +kernel
theorem dX2_has_1 : decode cX2_has 1 = .ok (.ifCond .lt 18, 3) := by decide +kernel
theorem dX2_has_4 : decode cX2_has 4 = .ok (.iload_n 1, 1) := by decide +kernel
theorem dX2_has_5 : decode cX2_has 5 = .ok (.aload_n 0, 1) := by decide +kernel
theorem dX2_has_6 : decode cX2_has 6 = .ok (.getfield 12, 3) := by decide +kernel
theorem dX2_has_9 : decode cX2_has 9 = .ok (.invokevirtual 25, 3) := by decide +kernel
theorem dX2_has_12 : decode cX2_has 12 = .ok (.if_icmp .ge 7, 3) := by decide +kernel
theorem dX2_has_15 : decode cX2_has 15 = .ok (.iconst 1, 1) := by decide +kernel
theorem dX2_has_16 : decode cX2_has 16 = .ok (.goto 4, 3) := by decide +kernel
theorem dX2_has_19 : decode cX2_has 19 = .ok (.iconst 0, 1) := by decide +kernel
theorem dX2_has_20 : decode cX2_has 20 = .ok (.ireturn, 1) := by decide +kernel
theorem dX2_refusal_0 : decode cX2_refusal 0 = .ok (.iconst 0, 1) := by decide +kernel
theorem dX2_refusal_1 : decode cX2_refusal 1 = .ok (.istore_n 2, 1) := by decide +kernel
theorem dX2_refusal_2 : decode cX2_refusal 2 = .ok (.iload_n 2, 1) := by decide +kernel
theorem dX2_refusal_3 : decode cX2_refusal 3 = .ok (.aload_n 0, 1) := by decide +kernel
theorem dX2_refusal_4 : decode cX2_refusal 4 = .ok (.getfield 12, 3) := by decide +kernel
theorem dX2_refusal_7 : decode cX2_refusal 7 = .ok (.invokevirtual 25, 3) := by decide +kernel
theorem dX2_refusal_10 : decode cX2_refusal 10 = .ok (.if_icmp .ge 30, 3) := by decide +kernel
theorem dX2_refusal_13 : decode cX2_refusal 13 = .ok (.aload_n 0, 1) := by decide +kernel
theorem dX2_refusal_14 : decode cX2_refusal 14 = .ok (.getfield 12, 3) := by decide +kernel
theorem dX2_refusal_17 : decode cX2_refusal 17 = .ok (.iload_n 2, 1) := by decide +kernel
theorem dX2_refusal_18 : decode cX2_refusal 18 = .ok (.invokevirtual 29, 3) := by decide +kernel
theorem dX2_refusal_21 : decode cX2_refusal 21 = .ok (.checkcast 33, 3) := by decide +kernel
theorem dX2_refusal_24 : decode cX2_refusal 24 = .ok (.aload_n 1, 1) := by decide +kernel
theorem dX2_refusal_25 : decode cX2_refusal 25 = .ok (.invokevirtual 49, 3) := by decide +kernel
theorem dX2_refusal_28 : decode cX2_refusal 28 = .ok (.ifCond .eq 6, 3) := by decide +kernel
theorem dX2_refusal_31 : decode cX2_refusal 31 = .ok (.bipush (-3), 2) := by decide +kernel
theorem dX2_refusal_33 : decode cX2_refusal 33 = .ok (.ireturn, 1) := by decide +kernel
theorem dX2_refusal_34 : decode cX2_refusal 34 = .ok (.iinc 2 1, 3) := by decide +kernel
theorem dX2_refusal_37 : decode cX2_refusal 37 = .ok (.goto (-35), 3) := by decide +kernel
theorem dX2_refusal_40 : decode cX2_refusal 40 = .ok (.aload_n 0, 1) := by decide +kernel
theorem dX2_refusal_41 : decode cX2_refusal 41 = .ok (.getfield 12, 3) := by decide +kernel
theorem dX2_refusal_44 : decode cX2_refusal 44 = .ok (.invokevirtual 25, 3) := by decide +kernel
theorem dX2_refusal_47 : decode cX2_refusal 47 = .ok (.bipush 16, 2) := by decide +kernel
theorem dX2_refusal_49 : decode cX2_refusal 49 = .ok (.if_icmp .lt 8, 3) := by decide +kernel
theorem dX2_refusal_52 : decode cX2_refusal 52 = .ok (.bipush (-4), 2) := by decide +kernel
theorem dX2_refusal_54 : decode cX2_refusal 54 = .ok (.goto 4, 3) := by decide +kernel
theorem dX2_refusal_57 : decode cX2_refusal 57 = .ok (.iconst 0, 1) := by decide +kernel
theorem dX2_refusal_58 : decode cX2_refusal 58 = .ok (.ireturn, 1) := by decide +kernel
theorem dX2_appendToQuery_0 : decode cX2_appendToQuery 0 = .ok (.aload_n 0, 1) := by decide +kernel
theorem dX2_appendToQuery_1 : decode cX2_appendToQuery 1 = .ok (.getfield 39, 3) := by decide +kernel
theorem dX2_appendToQuery_4 : decode cX2_appendToQuery 4 = .ok (.ifCond .lt 35, 3) := by decide +kernel
theorem dX2_appendToQuery_7 : decode cX2_appendToQuery 7 = .ok (.aload_n 0, 1) := by decide +kernel
theorem dX2_appendToQuery_8 : decode cX2_appendToQuery 8 = .ok (.getfield 39, 3) := by decide +kernel
theorem dX2_appendToQuery_11 : decode cX2_appendToQuery 11 = .ok (.aload_n 0, 1) := by decide +kernel
theorem dX2_appendToQuery_12 : decode cX2_appendToQuery 12 = .ok (.getfield 18, 3) := by decide +kernel
theorem dX2_appendToQuery_15 : decode cX2_appendToQuery 15 = .ok (.arraylength, 1) := by decide +kernel
theorem dX2_appendToQuery_16 : decode cX2_appendToQuery 16 = .ok (.if_icmp .ge 23, 3) := by decide +kernel
theorem dX2_appendToQuery_19 : decode cX2_appendToQuery 19 = .ok (.aload_n 0, 1) := by decide +kernel
theorem dX2_appendToQuery_20 : decode cX2_appendToQuery 20 = .ok (.getfield 18, 3) := by decide +kernel
theorem dX2_appendToQuery_23 : decode cX2_appendToQuery 23 = .ok (.aload_n 0, 1) := by decide +kernel
theorem dX2_appendToQuery_24 : decode cX2_appendToQuery 24 = .ok (.getfield 39, 3) := by decide +kernel
theorem dX2_appendToQuery_27 : decode cX2_appendToQuery 27 = .ok (.iload_n 1, 1) := by decide +kernel
theorem dX2_appendToQuery_28 : decode cX2_appendToQuery 28 = .ok (.castore, 1) := by decide +kernel
theorem dX2_appendToQuery_29 : decode cX2_appendToQuery 29 = .ok (.aload_n 0, 1) := by decide +kernel
theorem dX2_appendToQuery_30 : decode cX2_appendToQuery 30 = .ok (.dup, 1) := by decide +kernel
theorem dX2_appendToQuery_31 : decode cX2_appendToQuery 31 = .ok (.getfield 39, 3) := by decide +kernel
theorem dX2_appendToQuery_34 : decode cX2_appendToQuery 34 = .ok (.iconst 1, 1) := by decide +kernel
theorem dX2_appendToQuery_35 : decode cX2_appendToQuery 35 = .ok (.iadd, 1) := by decide +kernel
theorem dX2_appendToQuery_36 : decode cX2_appendToQuery 36 = .ok (.putfield 39, 3) := by decide +kernel
theorem dX2_appendToQuery_39 : decode cX2_appendToQuery 39 = .ok (.return_, 1) := by decide +kernel
theorem dX2_queryEndsWithLetter_0 : decode cX2_queryEndsWithLetter 0 = .ok (.aload_n 0, 1) := by decide +kernel
theorem dX2_queryEndsWithLetter_1 : decode cX2_queryEndsWithLetter 1 = .ok (.getfield 39, 3) := by decide +kernel
theorem dX2_queryEndsWithLetter_4 : decode cX2_queryEndsWithLetter 4 = .ok (.ifCond .le 35, 3) := by decide +kernel
theorem dX2_queryEndsWithLetter_7 : decode cX2_queryEndsWithLetter 7 = .ok (.aload_n 0, 1) := by decide +kernel
theorem dX2_queryEndsWithLetter_8 : decode cX2_queryEndsWithLetter 8 = .ok (.getfield 39, 3) := by decide +kernel
theorem dX2_queryEndsWithLetter_11 : decode cX2_queryEndsWithLetter 11 = .ok (.aload_n 0, 1) := by decide +kernel
theorem dX2_queryEndsWithLetter_12 : decode cX2_queryEndsWithLetter 12 = .ok (.getfield 18, 3) := by decide +kernel
theorem dX2_queryEndsWithLetter_15 : decode cX2_queryEndsWithLetter 15 = .ok (.arraylength, 1) := by decide +kernel
theorem dX2_queryEndsWithLetter_16 : decode cX2_queryEndsWithLetter 16 = .ok (.if_icmp .gt 23, 3) := by decide +kernel
theorem dX2_queryEndsWithLetter_19 : decode cX2_queryEndsWithLetter 19 = .ok (.aload_n 0, 1) := by decide +kernel
theorem dX2_queryEndsWithLetter_20 : decode cX2_queryEndsWithLetter 20 = .ok (.getfield 18, 3) := by decide +kernel
theorem dX2_queryEndsWithLetter_23 : decode cX2_queryEndsWithLetter 23 = .ok (.aload_n 0, 1) := by decide +kernel
theorem dX2_queryEndsWithLetter_24 : decode cX2_queryEndsWithLetter 24 = .ok (.getfield 39, 3) := by decide +kernel
theorem dX2_queryEndsWithLetter_27 : decode cX2_queryEndsWithLetter 27 = .ok (.iconst 1, 1) := by decide +kernel
theorem dX2_queryEndsWithLetter_28 : decode cX2_queryEndsWithLetter 28 = .ok (.isub, 1) := by decide +kernel
theorem dX2_queryEndsWithLetter_29 : decode cX2_queryEndsWithLetter 29 = .ok (.caload, 1) := by decide +kernel
theorem dX2_queryEndsWithLetter_30 : decode cX2_queryEndsWithLetter 30 = .ok (.bipush 32, 2) := by decide +kernel
theorem dX2_queryEndsWithLetter_32 : decode cX2_queryEndsWithLetter 32 = .ok (.if_icmp .eq 7, 3) := by decide +kernel
theorem dX2_queryEndsWithLetter_35 : decode cX2_queryEndsWithLetter 35 = .ok (.iconst 1, 1) := by decide +kernel
theorem dX2_queryEndsWithLetter_36 : decode cX2_queryEndsWithLetter 36 = .ok (.goto 4, 3) := by decide +kernel
theorem dX2_queryEndsWithLetter_39 : decode cX2_queryEndsWithLetter 39 = .ok (.iconst 0, 1) := by decide +kernel
theorem dX2_queryEndsWithLetter_40 : decode cX2_queryEndsWithLetter 40 = .ok (.ireturn, 1) := by decide +kernel
theorem dX2_placeOfMatch_0 : decode cX2_placeOfMatch 0 = .ok (.aload_n 0, 1) := by decide +kernel
theorem dX2_placeOfMatch_1 : decode cX2_placeOfMatch 1 = .ok (.invokevirtual 53, 3) := by decide +kernel
theorem dX2_placeOfMatch_4 : decode cX2_placeOfMatch 4 = .ok (.ifCond .eq 10, 3) := by decide +kernel
theorem dX2_placeOfMatch_7 : decode cX2_placeOfMatch 7 = .ok (.aload_n 0, 1) := by decide +kernel
theorem dX2_placeOfMatch_8 : decode cX2_placeOfMatch 8 = .ok (.getfield 39, 3) := by decide +kernel
theorem dX2_placeOfMatch_11 : decode cX2_placeOfMatch 11 = .ok (.goto 9, 3) := by decide +kernel
theorem dX2_placeOfMatch_14 : decode cX2_placeOfMatch 14 = .ok (.aload_n 0, 1) := by decide +kernel
theorem dX2_placeOfMatch_15 : decode cX2_placeOfMatch 15 = .ok (.getfield 39, 3) := by decide +kernel
theorem dX2_placeOfMatch_18 : decode cX2_placeOfMatch 18 = .ok (.iconst 1, 1) := by decide +kernel
theorem dX2_placeOfMatch_19 : decode cX2_placeOfMatch 19 = .ok (.isub, 1) := by decide +kernel
theorem dX2_placeOfMatch_20 : decode cX2_placeOfMatch 20 = .ok (.istore_n 2, 1) := by decide +kernel
theorem dX2_placeOfMatch_21 : decode cX2_placeOfMatch 21 = .ok (.iload_n 2, 1) := by decide +kernel
theorem dX2_placeOfMatch_22 : decode cX2_placeOfMatch 22 = .ok (.ifCond .gt 7, 3) := by decide +kernel
theorem dX2_placeOfMatch_25 : decode cX2_placeOfMatch 25 = .ok (.iconst 0, 1) := by decide +kernel
theorem dX2_placeOfMatch_26 : decode cX2_placeOfMatch 26 = .ok (.goto 26, 3) := by decide +kernel
theorem dX2_placeOfMatch_29 : decode cX2_placeOfMatch 29 = .ok (.aload_n 0, 1) := by decide +kernel
theorem dX2_placeOfMatch_30 : decode cX2_placeOfMatch 30 = .ok (.getfield 12, 3) := by decide +kernel
theorem dX2_placeOfMatch_33 : decode cX2_placeOfMatch 33 = .ok (.iload_n 1, 1) := by decide +kernel
theorem dX2_placeOfMatch_34 : decode cX2_placeOfMatch 34 = .ok (.invokevirtual 29, 3) := by decide +kernel
theorem dX2_placeOfMatch_37 : decode cX2_placeOfMatch 37 = .ok (.checkcast 33, 3) := by decide +kernel
theorem dX2_placeOfMatch_40 : decode cX2_placeOfMatch 40 = .ok (.aload_n 0, 1) := by decide +kernel
theorem dX2_placeOfMatch_41 : decode cX2_placeOfMatch 41 = .ok (.getfield 18, 3) := by decide +kernel
theorem dX2_placeOfMatch_44 : decode cX2_placeOfMatch 44 = .ok (.iload_n 2, 1) := by decide +kernel
theorem dX2_placeOfMatch_45 : decode cX2_placeOfMatch 45 = .ok (.aload_n 0, 1) := by decide +kernel
theorem dX2_placeOfMatch_46 : decode cX2_placeOfMatch 46 = .ok (.getfield 43, 3) := by decide +kernel
theorem dX2_placeOfMatch_49 : decode cX2_placeOfMatch 49 = .ok (.invokevirtual 57, 3) := by decide +kernel
theorem dX2_placeOfMatch_52 : decode cX2_placeOfMatch 52 = .ok (.ireturn, 1) := by decide +kernel
theorem dX2_comesBefore_0 : decode cX2_comesBefore 0 = .ok (.aload_n 0, 1) := by decide +kernel
theorem dX2_comesBefore_1 : decode cX2_comesBefore 1 = .ok (.getfield 12, 3) := by decide +kernel
theorem dX2_comesBefore_4 : decode cX2_comesBefore 4 = .ok (.iload_n 1, 1) := by decide +kernel
theorem dX2_comesBefore_5 : decode cX2_comesBefore 5 = .ok (.invokevirtual 29, 3) := by decide +kernel
theorem dX2_comesBefore_8 : decode cX2_comesBefore 8 = .ok (.checkcast 33, 3) := by decide +kernel
theorem dX2_comesBefore_11 : decode cX2_comesBefore 11 = .ok (.astore 5, 2) := by decide +kernel
theorem dX2_comesBefore_13 : decode cX2_comesBefore 13 = .ok (.aload_n 0, 1) := by decide +kernel
theorem dX2_comesBefore_14 : decode cX2_comesBefore 14 = .ok (.getfield 12, 3) := by decide +kernel
theorem dX2_comesBefore_17 : decode cX2_comesBefore 17 = .ok (.iload_n 3, 1) := by decide +kernel
theorem dX2_comesBefore_18 : decode cX2_comesBefore 18 = .ok (.invokevirtual 29, 3) := by decide +kernel
theorem dX2_comesBefore_21 : decode cX2_comesBefore 21 = .ok (.checkcast 33, 3) := by decide +kernel
theorem dX2_comesBefore_24 : decode cX2_comesBefore 24 = .ok (.astore 6, 2) := by decide +kernel
theorem dX2_comesBefore_26 : decode cX2_comesBefore 26 = .ok (.aload_n 0, 1) := by decide +kernel
theorem dX2_comesBefore_27 : decode cX2_comesBefore 27 = .ok (.getfield 46, 3) := by decide +kernel
theorem dX2_comesBefore_30 : decode cX2_comesBefore 30 = .ok (.iconst 2, 1) := by decide +kernel
theorem dX2_comesBefore_31 : decode cX2_comesBefore 31 = .ok (.if_icmp .ne 11, 3) := by decide +kernel
theorem dX2_comesBefore_34 : decode cX2_comesBefore 34 = .ok (.aload 5, 2) := by decide +kernel
theorem dX2_comesBefore_36 : decode cX2_comesBefore 36 = .ok (.aload 6, 2) := by decide +kernel
theorem dX2_comesBefore_38 : decode cX2_comesBefore 38 = .ok (.invokevirtual 61, 3) := by decide +kernel
theorem dX2_comesBefore_41 : decode cX2_comesBefore 41 = .ok (.ireturn, 1) := by decide +kernel
theorem dX2_comesBefore_42 : decode cX2_comesBefore 42 = .ok (.aload_n 0, 1) := by decide +kernel
theorem dX2_comesBefore_43 : decode cX2_comesBefore 43 = .ok (.getfield 46, 3) := by decide +kernel
theorem dX2_comesBefore_46 : decode cX2_comesBefore 46 = .ok (.iconst 1, 1) := by decide +kernel
theorem dX2_comesBefore_47 : decode cX2_comesBefore 47 = .ok (.if_icmp .ne 35, 3) := by decide +kernel
theorem dX2_comesBefore_50 : decode cX2_comesBefore 50 = .ok (.aload 5, 2) := by decide +kernel
theorem dX2_comesBefore_52 : decode cX2_comesBefore 52 = .ok (.getfield 64, 3) := by decide +kernel
theorem dX2_comesBefore_55 : decode cX2_comesBefore 55 = .ok (.aload 6, 2) := by decide +kernel
theorem dX2_comesBefore_57 : decode cX2_comesBefore 57 = .ok (.getfield 64, 3) := by decide +kernel
theorem dX2_comesBefore_60 : decode cX2_comesBefore 60 = .ok (.if_icmp .eq 22, 3) := by decide +kernel
theorem dX2_comesBefore_63 : decode cX2_comesBefore 63 = .ok (.aload 5, 2) := by decide +kernel
theorem dX2_comesBefore_65 : decode cX2_comesBefore 65 = .ok (.getfield 64, 3) := by decide +kernel
theorem dX2_comesBefore_68 : decode cX2_comesBefore 68 = .ok (.aload 6, 2) := by decide +kernel
theorem dX2_comesBefore_70 : decode cX2_comesBefore 70 = .ok (.getfield 64, 3) := by decide +kernel
theorem dX2_comesBefore_73 : decode cX2_comesBefore 73 = .ok (.if_icmp .le 7, 3) := by decide +kernel
theorem dX2_comesBefore_76 : decode cX2_comesBefore 76 = .ok (.iconst 1, 1) := by decide +kernel
theorem dX2_comesBefore_77 : decode cX2_comesBefore 77 = .ok (.goto 4, 3) := by decide +kernel
theorem dX2_comesBefore_80 : decode cX2_comesBefore 80 = .ok (.iconst 0, 1) := by decide +kernel
theorem dX2_comesBefore_81 : decode cX2_comesBefore 81 = .ok (.ireturn, 1) := by decide +kernel
theorem dX2_comesBefore_82 : decode cX2_comesBefore 82 = .ok (.iload_n 2, 1) := by decide +kernel
theorem dX2_comesBefore_83 : decode cX2_comesBefore 83 = .ok (.iload 4, 2) := by decide +kernel
theorem dX2_comesBefore_85 : decode cX2_comesBefore 85 = .ok (.if_icmp .eq 15, 3) := by decide +kernel
theorem dX2_comesBefore_88 : decode cX2_comesBefore 88 = .ok (.iload_n 2, 1) := by decide +kernel
theorem dX2_comesBefore_89 : decode cX2_comesBefore 89 = .ok (.iload 4, 2) := by decide +kernel
theorem dX2_comesBefore_91 : decode cX2_comesBefore 91 = .ok (.if_icmp .ge 7, 3) := by decide +kernel
theorem dX2_comesBefore_94 : decode cX2_comesBefore 94 = .ok (.iconst 1, 1) := by decide +kernel
theorem dX2_comesBefore_95 : decode cX2_comesBefore 95 = .ok (.goto 4, 3) := by decide +kernel
theorem dX2_comesBefore_98 : decode cX2_comesBefore 98 = .ok (.iconst 0, 1) := by decide +kernel
theorem dX2_comesBefore_99 : decode cX2_comesBefore 99 = .ok (.ireturn, 1) := by decide +kernel
theorem dX2_comesBefore_100 : decode cX2_comesBefore 100 = .ok (.aload 5, 2) := by decide +kernel
theorem dX2_comesBefore_102 : decode cX2_comesBefore 102 = .ok (.getfield 67, 3) := by decide +kernel
theorem dX2_comesBefore_105 : decode cX2_comesBefore 105 = .ok (.arraylength, 1) := by decide +kernel
theorem dX2_comesBefore_106 : decode cX2_comesBefore 106 = .ok (.aload 6, 2) := by decide +kernel
theorem dX2_comesBefore_108 : decode cX2_comesBefore 108 = .ok (.getfield 67, 3) := by decide +kernel
theorem dX2_comesBefore_111 : decode cX2_comesBefore 111 = .ok (.arraylength, 1) := by decide +kernel
theorem dX2_comesBefore_112 : decode cX2_comesBefore 112 = .ok (.if_icmp .eq 24, 3) := by decide +kernel
theorem dX2_comesBefore_115 : decode cX2_comesBefore 115 = .ok (.aload 5, 2) := by decide +kernel
theorem dX2_comesBefore_117 : decode cX2_comesBefore 117 = .ok (.getfield 67, 3) := by decide +kernel
theorem dX2_comesBefore_120 : decode cX2_comesBefore 120 = .ok (.arraylength, 1) := by decide +kernel
theorem dX2_comesBefore_121 : decode cX2_comesBefore 121 = .ok (.aload 6, 2) := by decide +kernel
theorem dX2_comesBefore_123 : decode cX2_comesBefore 123 = .ok (.getfield 67, 3) := by decide +kernel
theorem dX2_comesBefore_126 : decode cX2_comesBefore 126 = .ok (.arraylength, 1) := by decide +kernel
theorem dX2_comesBefore_127 : decode cX2_comesBefore 127 = .ok (.if_icmp .ge 7, 3) := by decide +kernel
theorem dX2_comesBefore_130 : decode cX2_comesBefore 130 = .ok (.iconst 1, 1) := by decide +kernel
theorem dX2_comesBefore_131 : decode cX2_comesBefore 131 = .ok (.goto 4, 3) := by decide +kernel
theorem dX2_comesBefore_134 : decode cX2_comesBefore 134 = .ok (.iconst 0, 1) := by decide +kernel
theorem dX2_comesBefore_135 : decode cX2_comesBefore 135 = .ok (.ireturn, 1) := by decide +kernel
theorem dX2_comesBefore_136 : decode cX2_comesBefore 136 = .ok (.iload_n 1, 1) := by decide +kernel
theorem dX2_comesBefore_137 : decode cX2_comesBefore 137 = .ok (.iload_n 3, 1) := by decide +kernel
theorem dX2_comesBefore_138 : decode cX2_comesBefore 138 = .ok (.if_icmp .ge 7, 3) := by decide +kernel
theorem dX2_comesBefore_141 : decode cX2_comesBefore 141 = .ok (.iconst 1, 1) := by decide +kernel
theorem dX2_comesBefore_142 : decode cX2_comesBefore 142 = .ok (.goto 4, 3) := by decide +kernel
theorem dX2_comesBefore_145 : decode cX2_comesBefore 145 = .ok (.iconst 0, 1) := by decide +kernel
theorem dX2_comesBefore_146 : decode cX2_comesBefore 146 = .ok (.ireturn, 1) := by decide +kernel
theorem dX3_init_0 : decode cX3_init 0 = .ok (.aload_n 0, 1) := by decide +kernel
theorem dX3_init_1 : decode cX3_init 1 = .ok (.invokespecial 3, 3) := by decide +kernel
theorem dX3_init_4 : decode cX3_init 4 = .ok (.aload_n 0, 1) := by decide +kernel
theorem dX3_init_5 : decode cX3_init 5 = .ok (.bipush 16, 2) := by decide +kernel
theorem dX3_init_7 : decode cX3_init 7 = .ok (.bipush 25, 2) := by decide +kernel
theorem dX3_init_9 : decode cX3_init 9 = .ok (.multianewarray 9 2, 4) := by decide +kernel
theorem dX3_init_13 : decode cX3_init 13 = .ok (.putfield 11, 3) := by decide +kernel
theorem dX3_init_16 : decode cX3_init 16 = .ok (.return_, 1) := by decide +kernel
theorem dX3_look_0 : decode cX3_look 0 = .ok (.aload_n 0, 1) := by decide +kernel
theorem dX3_look_1 : decode cX3_look 1 = .ok (.iconst 0, 1) := by decide +kernel
theorem dX3_look_2 : decode cX3_look 2 = .ok (.putfield 16, 3) := by decide +kernel
theorem dX3_look_5 : decode cX3_look 5 = .ok (.aload_n 0, 1) := by decide +kernel
theorem dX3_look_6 : decode cX3_look 6 = .ok (.iconst 0, 1) := by decide +kernel
theorem dX3_look_7 : decode cX3_look 7 = .ok (.putfield 20, 3) := by decide +kernel
theorem dX3_look_10 : decode cX3_look 10 = .ok (.aload_n 0, 1) := by decide +kernel
theorem dX3_look_11 : decode cX3_look 11 = .ok (.iconst 0, 1) := by decide +kernel
theorem dX3_look_12 : decode cX3_look 12 = .ok (.putfield 23, 3) := by decide +kernel
theorem dX3_look_15 : decode cX3_look 15 = .ok (.aload_n 0, 1) := by decide +kernel
theorem dX3_look_16 : decode cX3_look 16 = .ok (.iconst 0, 1) := by decide +kernel
theorem dX3_look_17 : decode cX3_look 17 = .ok (.putfield 26, 3) := by decide +kernel
theorem dX3_look_20 : decode cX3_look 20 = .ok (.aload_n 1, 1) := by decide +kernel
theorem dX3_look_21 : decode cX3_look 21 = .ok (.iload_n 2, 1) := by decide +kernel
theorem dX3_look_22 : decode cX3_look 22 = .ok (.invokevirtual 29, 3) := by decide +kernel
theorem dX3_look_25 : decode cX3_look 25 = .ok (.ifCond .ne 4, 3) := by decide +kernel
theorem dX3_look_28 : decode cX3_look 28 = .ok (.return_, 1) := by decide +kernel
theorem dX3_look_29 : decode cX3_look 29 = .ok (.aload_n 1, 1) := by decide +kernel
theorem dX3_look_30 : decode cX3_look 30 = .ok (.getfield 35, 3) := by decide +kernel
theorem dX3_look_33 : decode cX3_look 33 = .ok (.iload_n 2, 1) := by decide +kernel
theorem dX3_look_34 : decode cX3_look 34 = .ok (.invokevirtual 39, 3) := by decide +kernel
theorem dX3_look_37 : decode cX3_look 37 = .ok (.checkcast 45, 3) := by decide +kernel
theorem dX3_look_40 : decode cX3_look 40 = .ok (.astore_n 3, 1) := by decide +kernel
theorem dX3_look_41 : decode cX3_look 41 = .ok (.aload_n 3, 1) := by decide +kernel
theorem dX3_look_42 : decode cX3_look 42 = .ok (.aload_n 1, 1) := by decide +kernel
theorem dX3_look_43 : decode cX3_look 43 = .ok (.getfield 47, 3) := by decide +kernel
theorem dX3_look_46 : decode cX3_look 46 = .ok (.invokevirtual 50, 3) := by decide +kernel
theorem dX3_look_49 : decode cX3_look 49 = .ok (.astore 4, 2) := by decide +kernel
theorem dX3_look_51 : decode cX3_look 51 = .ok (.iconst 0, 1) := by decide +kernel
theorem dX3_look_52 : decode cX3_look 52 = .ok (.istore 5, 2) := by decide +kernel
theorem dX3_look_54 : decode cX3_look 54 = .ok (.iload 5, 2) := by decide +kernel
theorem dX3_look_56 : decode cX3_look 56 = .ok (.aload 4, 2) := by decide +kernel
theorem dX3_look_58 : decode cX3_look 58 = .ok (.arraylength, 1) := by decide +kernel
theorem dX3_look_59 : decode cX3_look 59 = .ok (.if_icmp .ge 32, 3) := by decide +kernel
theorem dX3_look_62 : decode cX3_look 62 = .ok (.aload_n 3, 1) := by decide +kernel
theorem dX3_look_63 : decode cX3_look 63 = .ok (.aload_n 1, 1) := by decide +kernel
theorem dX3_look_64 : decode cX3_look 64 = .ok (.getfield 47, 3) := by decide +kernel
theorem dX3_look_67 : decode cX3_look 67 = .ok (.iload 5, 2) := by decide +kernel
theorem dX3_look_69 : decode cX3_look 69 = .ok (.invokevirtual 54, 3) := by decide +kernel
theorem dX3_look_72 : decode cX3_look 72 = .ok (.ifCond .eq 13, 3) := by decide +kernel
theorem dX3_look_75 : decode cX3_look 75 = .ok (.aload_n 0, 1) := by decide +kernel
theorem dX3_look_76 : decode cX3_look 76 = .ok (.iload 5, 2) := by decide +kernel
theorem dX3_look_78 : decode cX3_look 78 = .ok (.aload 4, 2) := by decide +kernel
theorem dX3_look_80 : decode cX3_look 80 = .ok (.aload_n 1, 1) := by decide +kernel
theorem dX3_look_81 : decode cX3_look 81 = .ok (.iload_n 2, 1) := by decide +kernel
theorem dX3_look_82 : decode cX3_look 82 = .ok (.invokevirtual 58, 3) := by decide +kernel
theorem dX3_look_85 : decode cX3_look 85 = .ok (.iinc 5 1, 3) := by decide +kernel
theorem dX3_look_88 : decode cX3_look 88 = .ok (.goto (-34), 3) := by decide +kernel
theorem dX3_look_91 : decode cX3_look 91 = .ok (.return_, 1) := by decide +kernel
theorem dX3_hasKey_0 : decode cX3_hasKey 0 = .ok (.aload_n 0, 1) := by decide +kernel
theorem dX3_hasKey_1 : decode cX3_hasKey 1 = .ok (.getfield 20, 3) := by decide +kernel
theorem dX3_hasKey_4 : decode cX3_hasKey 4 = .ok (.ifCond .le 7, 3) := by decide +kernel
theorem dX3_hasKey_7 : decode cX3_hasKey 7 = .ok (.iconst 1, 1) := by decide +kernel
theorem dX3_hasKey_8 : decode cX3_hasKey 8 = .ok (.goto 4, 3) := by decide +kernel
theorem dX3_hasKey_11 : decode cX3_hasKey 11 = .ok (.iconst 0, 1) := by decide +kernel
theorem dX3_hasKey_12 : decode cX3_hasKey 12 = .ok (.ireturn, 1) := by decide +kernel
theorem dX3_hasShortcut_0 : decode cX3_hasShortcut 0 = .ok (.aload_n 0, 1) := by decide +kernel
theorem dX3_hasShortcut_1 : decode cX3_hasShortcut 1 = .ok (.getfield 26, 3) := by decide +kernel
theorem dX3_hasShortcut_4 : decode cX3_hasShortcut 4 = .ok (.ifCond .le 7, 3) := by decide +kernel
theorem dX3_hasShortcut_7 : decode cX3_hasShortcut 7 = .ok (.iconst 1, 1) := by decide +kernel
theorem dX3_hasShortcut_8 : decode cX3_hasShortcut 8 = .ok (.goto 4, 3) := by decide +kernel
theorem dX3_hasShortcut_11 : decode cX3_hasShortcut 11 = .ok (.iconst 0, 1) := by decide +kernel
theorem dX3_hasShortcut_12 : decode cX3_hasShortcut 12 = .ok (.ireturn, 1) := by decide +kernel
theorem dX3_lookAtPiecesFrom_0 : decode cX3_lookAtPiecesFrom 0 = .ok (.aload_n 2, 1) := by decide +kernel
theorem dX3_lookAtPiecesFrom_1 : decode cX3_lookAtPiecesFrom 1 = .ok (.arraylength, 1) := by decide +kernel
theorem dX3_lookAtPiecesFrom_2 : decode cX3_lookAtPiecesFrom 2 = .ok (.iload_n 1, 1) := by decide +kernel
theorem dX3_lookAtPiecesFrom_3 : decode cX3_lookAtPiecesFrom 3 = .ok (.isub, 1) := by decide +kernel
theorem dX3_lookAtPiecesFrom_4 : decode cX3_lookAtPiecesFrom 4 = .ok (.aload_n 0, 1) := by decide +kernel
theorem dX3_lookAtPiecesFrom_5 : decode cX3_lookAtPiecesFrom 5 = .ok (.invokevirtual 62, 3) := by decide +kernel
theorem dX3_lookAtPiecesFrom_8 : decode cX3_lookAtPiecesFrom 8 = .ok (.invokestatic 66, 3) := by decide +kernel
theorem dX3_lookAtPiecesFrom_11 : decode cX3_lookAtPiecesFrom 11 = .ok (.istore 5, 2) := by decide +kernel
theorem dX3_lookAtPiecesFrom_13 : decode cX3_lookAtPiecesFrom 13 = .ok (.iconst 0, 1) := by decide +kernel
theorem dX3_lookAtPiecesFrom_14 : decode cX3_lookAtPiecesFrom 14 = .ok (.istore 6, 2) := by decide +kernel
theorem dX3_lookAtPiecesFrom_16 : decode cX3_lookAtPiecesFrom 16 = .ok (.iload 6, 2) := by decide +kernel
theorem dX3_lookAtPiecesFrom_18 : decode cX3_lookAtPiecesFrom 18 = .ok (.aload_n 3, 1) := by decide +kernel
theorem dX3_lookAtPiecesFrom_19 : decode cX3_lookAtPiecesFrom 19 = .ok (.getfield 35, 3) := by decide +kernel
theorem dX3_lookAtPiecesFrom_22 : decode cX3_lookAtPiecesFrom 22 = .ok (.invokevirtual 72, 3) := by decide +kernel
theorem dX3_lookAtPiecesFrom_25 : decode cX3_lookAtPiecesFrom 25 = .ok (.if_icmp .ge 49, 3) := by decide +kernel
theorem dX3_lookAtPiecesFrom_28 : decode cX3_lookAtPiecesFrom 28 = .ok (.iload 6, 2) := by decide +kernel
theorem dX3_lookAtPiecesFrom_30 : decode cX3_lookAtPiecesFrom 30 = .ok (.aload_n 0, 1) := by decide +kernel
theorem dX3_lookAtPiecesFrom_31 : decode cX3_lookAtPiecesFrom 31 = .ok (.getfield 11, 3) := by decide +kernel
theorem dX3_lookAtPiecesFrom_34 : decode cX3_lookAtPiecesFrom 34 = .ok (.arraylength, 1) := by decide +kernel
theorem dX3_lookAtPiecesFrom_35 : decode cX3_lookAtPiecesFrom 35 = .ok (.if_icmp .ge 39, 3) := by decide +kernel
theorem dX3_lookAtPiecesFrom_38 : decode cX3_lookAtPiecesFrom 38 = .ok (.aload_n 0, 1) := by decide +kernel
theorem dX3_lookAtPiecesFrom_39 : decode cX3_lookAtPiecesFrom 39 = .ok (.getfield 11, 3) := by decide +kernel
theorem dX3_lookAtPiecesFrom_42 : decode cX3_lookAtPiecesFrom 42 = .ok (.iload 6, 2) := by decide +kernel
theorem dX3_lookAtPiecesFrom_44 : decode cX3_lookAtPiecesFrom 44 = .ok (.aaload, 1) := by decide +kernel
theorem dX3_lookAtPiecesFrom_45 : decode cX3_lookAtPiecesFrom 45 = .ok (.iload 5, 2) := by decide +kernel
theorem dX3_lookAtPiecesFrom_47 : decode cX3_lookAtPiecesFrom 47 = .ok (.aload_n 2, 1) := by decide +kernel
theorem dX3_lookAtPiecesFrom_48 : decode cX3_lookAtPiecesFrom 48 = .ok (.iload_n 1, 1) := by decide +kernel
theorem dX3_lookAtPiecesFrom_49 : decode cX3_lookAtPiecesFrom 49 = .ok (.aload_n 3, 1) := by decide +kernel
theorem dX3_lookAtPiecesFrom_50 : decode cX3_lookAtPiecesFrom 50 = .ok (.getfield 35, 3) := by decide +kernel
theorem dX3_lookAtPiecesFrom_53 : decode cX3_lookAtPiecesFrom 53 = .ok (.iload 6, 2) := by decide +kernel
theorem dX3_lookAtPiecesFrom_55 : decode cX3_lookAtPiecesFrom 55 = .ok (.invokevirtual 39, 3) := by decide +kernel
theorem dX3_lookAtPiecesFrom_58 : decode cX3_lookAtPiecesFrom 58 = .ok (.checkcast 45, 3) := by decide +kernel
theorem dX3_lookAtPiecesFrom_61 : decode cX3_lookAtPiecesFrom 61 = .ok (.aload_n 3, 1) := by decide +kernel
theorem dX3_lookAtPiecesFrom_62 : decode cX3_lookAtPiecesFrom 62 = .ok (.getfield 47, 3) := by decide +kernel
theorem dX3_lookAtPiecesFrom_65 : decode cX3_lookAtPiecesFrom 65 = .ok (.invokestatic 75, 3) := by decide +kernel
theorem dX3_lookAtPiecesFrom_68 : decode cX3_lookAtPiecesFrom 68 = .ok (.iinc 6 1, 3) := by decide +kernel
theorem dX3_lookAtPiecesFrom_71 : decode cX3_lookAtPiecesFrom 71 = .ok (.goto (-55), 3) := by decide +kernel
theorem dX3_lookAtPiecesFrom_74 : decode cX3_lookAtPiecesFrom 74 = .ok (.iconst 1, 1) := by decide +kernel
theorem dX3_lookAtPiecesFrom_75 : decode cX3_lookAtPiecesFrom 75 = .ok (.istore 6, 2) := by decide +kernel
theorem dX3_lookAtPiecesFrom_77 : decode cX3_lookAtPiecesFrom 77 = .ok (.iload 6, 2) := by decide +kernel
theorem dX3_lookAtPiecesFrom_79 : decode cX3_lookAtPiecesFrom 79 = .ok (.iload 5, 2) := by decide +kernel
theorem dX3_lookAtPiecesFrom_81 : decode cX3_lookAtPiecesFrom 81 = .ok (.if_icmp .gt 103, 3) := by decide +kernel
theorem dX3_lookAtPiecesFrom_84 : decode cX3_lookAtPiecesFrom 84 = .ok (.aload_n 2, 1) := by decide +kernel
theorem dX3_lookAtPiecesFrom_85 : decode cX3_lookAtPiecesFrom 85 = .ok (.iload_n 1, 1) := by decide +kernel
theorem dX3_lookAtPiecesFrom_86 : decode cX3_lookAtPiecesFrom 86 = .ok (.iload 6, 2) := by decide +kernel
theorem dX3_lookAtPiecesFrom_88 : decode cX3_lookAtPiecesFrom 88 = .ok (.iadd, 1) := by decide +kernel
theorem dX3_lookAtPiecesFrom_89 : decode cX3_lookAtPiecesFrom 89 = .ok (.iconst 1, 1) := by decide +kernel
theorem dX3_lookAtPiecesFrom_90 : decode cX3_lookAtPiecesFrom 90 = .ok (.isub, 1) := by decide +kernel
theorem dX3_lookAtPiecesFrom_91 : decode cX3_lookAtPiecesFrom 91 = .ok (.caload, 1) := by decide +kernel
theorem dX3_lookAtPiecesFrom_92 : decode cX3_lookAtPiecesFrom 92 = .ok (.bipush 32, 2) := by decide +kernel
theorem dX3_lookAtPiecesFrom_94 : decode cX3_lookAtPiecesFrom 94 = .ok (.if_icmp .ne 6, 3) := by decide +kernel
theorem dX3_lookAtPiecesFrom_97 : decode cX3_lookAtPiecesFrom 97 = .ok (.goto 81, 3) := by decide +kernel
theorem dX3_lookAtPiecesFrom_100 : decode cX3_lookAtPiecesFrom 100 = .ok (.aload_n 0, 1) := by decide +kernel
theorem dX3_lookAtPiecesFrom_101 : decode cX3_lookAtPiecesFrom 101 = .ok (.invokevirtual 79, 3) := by decide +kernel
theorem dX3_lookAtPiecesFrom_104 : decode cX3_lookAtPiecesFrom 104 = .ok (.ifCond .eq 12, 3) := by decide +kernel
theorem dX3_lookAtPiecesFrom_107 : decode cX3_lookAtPiecesFrom 107 = .ok (.iload 6, 2) := by decide +kernel
theorem dX3_lookAtPiecesFrom_109 : decode cX3_lookAtPiecesFrom 109 = .ok (.aload_n 0, 1) := by decide +kernel
theorem dX3_lookAtPiecesFrom_110 : decode cX3_lookAtPiecesFrom 110 = .ok (.getfield 20, 3) := by decide +kernel
theorem dX3_lookAtPiecesFrom_113 : decode cX3_lookAtPiecesFrom 113 = .ok (.if_icmp .ge 26, 3) := by decide +kernel
theorem dX3_lookAtPiecesFrom_116 : decode cX3_lookAtPiecesFrom 116 = .ok (.aload_n 0, 1) := by decide +kernel
theorem dX3_lookAtPiecesFrom_117 : decode cX3_lookAtPiecesFrom 117 = .ok (.iload 6, 2) := by decide +kernel
theorem dX3_lookAtPiecesFrom_119 : decode cX3_lookAtPiecesFrom 119 = .ok (.aload_n 3, 1) := by decide +kernel
theorem dX3_lookAtPiecesFrom_120 : decode cX3_lookAtPiecesFrom 120 = .ok (.iload 4, 2) := by decide +kernel
theorem dX3_lookAtPiecesFrom_122 : decode cX3_lookAtPiecesFrom 122 = .ok (.invokevirtual 83, 3) := by decide +kernel
theorem dX3_lookAtPiecesFrom_125 : decode cX3_lookAtPiecesFrom 125 = .ok (.ifCond .eq 14, 3) := by decide +kernel
theorem dX3_lookAtPiecesFrom_128 : decode cX3_lookAtPiecesFrom 128 = .ok (.aload_n 0, 1) := by decide +kernel
theorem dX3_lookAtPiecesFrom_129 : decode cX3_lookAtPiecesFrom 129 = .ok (.iload_n 1, 1) := by decide +kernel
theorem dX3_lookAtPiecesFrom_130 : decode cX3_lookAtPiecesFrom 130 = .ok (.putfield 16, 3) := by decide +kernel
theorem dX3_lookAtPiecesFrom_133 : decode cX3_lookAtPiecesFrom 133 = .ok (.aload_n 0, 1) := by decide +kernel
theorem dX3_lookAtPiecesFrom_134 : decode cX3_lookAtPiecesFrom 134 = .ok (.iload 6, 2) := by decide +kernel
theorem dX3_lookAtPiecesFrom_136 : decode cX3_lookAtPiecesFrom 136 = .ok (.putfield 20, 3) := by decide +kernel
theorem dX3_lookAtPiecesFrom_139 : decode cX3_lookAtPiecesFrom 139 = .ok (.aload_n 0, 1) := by decide +kernel
theorem dX3_lookAtPiecesFrom_140 : decode cX3_lookAtPiecesFrom 140 = .ok (.invokevirtual 87, 3) := by decide +kernel
theorem dX3_lookAtPiecesFrom_143 : decode cX3_lookAtPiecesFrom 143 = .ok (.ifCond .eq 12, 3) := by decide +kernel
theorem dX3_lookAtPiecesFrom_146 : decode cX3_lookAtPiecesFrom 146 = .ok (.iload 6, 2) := by decide +kernel
theorem dX3_lookAtPiecesFrom_148 : decode cX3_lookAtPiecesFrom 148 = .ok (.aload_n 0, 1) := by decide +kernel
theorem dX3_lookAtPiecesFrom_149 : decode cX3_lookAtPiecesFrom 149 = .ok (.getfield 26, 3) := by decide +kernel
theorem dX3_lookAtPiecesFrom_152 : decode cX3_lookAtPiecesFrom 152 = .ok (.if_icmp .ge 26, 3) := by decide +kernel
theorem dX3_lookAtPiecesFrom_155 : decode cX3_lookAtPiecesFrom 155 = .ok (.aload_n 0, 1) := by decide +kernel
theorem dX3_lookAtPiecesFrom_156 : decode cX3_lookAtPiecesFrom 156 = .ok (.iload 6, 2) := by decide +kernel
theorem dX3_lookAtPiecesFrom_158 : decode cX3_lookAtPiecesFrom 158 = .ok (.aload_n 3, 1) := by decide +kernel
theorem dX3_lookAtPiecesFrom_159 : decode cX3_lookAtPiecesFrom 159 = .ok (.iload 4, 2) := by decide +kernel
theorem dX3_lookAtPiecesFrom_161 : decode cX3_lookAtPiecesFrom 161 = .ok (.invokevirtual 90, 3) := by decide +kernel
theorem dX3_lookAtPiecesFrom_164 : decode cX3_lookAtPiecesFrom 164 = .ok (.ifCond .eq 14, 3) := by decide +kernel
theorem dX3_lookAtPiecesFrom_167 : decode cX3_lookAtPiecesFrom 167 = .ok (.aload_n 0, 1) := by decide +kernel
theorem dX3_lookAtPiecesFrom_168 : decode cX3_lookAtPiecesFrom 168 = .ok (.iload_n 1, 1) := by decide +kernel
theorem dX3_lookAtPiecesFrom_169 : decode cX3_lookAtPiecesFrom 169 = .ok (.putfield 23, 3) := by decide +kernel
theorem dX3_lookAtPiecesFrom_172 : decode cX3_lookAtPiecesFrom 172 = .ok (.aload_n 0, 1) := by decide +kernel
theorem dX3_lookAtPiecesFrom_173 : decode cX3_lookAtPiecesFrom 173 = .ok (.iload 6, 2) := by decide +kernel
theorem dX3_lookAtPiecesFrom_175 : decode cX3_lookAtPiecesFrom 175 = .ok (.putfield 26, 3) := by decide +kernel
theorem dX3_lookAtPiecesFrom_178 : decode cX3_lookAtPiecesFrom 178 = .ok (.iinc 6 1, 3) := by decide +kernel
theorem dX3_lookAtPiecesFrom_181 : decode cX3_lookAtPiecesFrom 181 = .ok (.goto (-104), 3) := by decide +kernel
theorem dX3_lookAtPiecesFrom_184 : decode cX3_lookAtPiecesFrom 184 = .ok (.return_, 1) := by decide +kernel
theorem dX3_longestWanted_0 : decode cX3_longestWanted 0 = .ok (.aload_n 0, 1) := by decide +kernel
theorem dX3_longestWanted_1 : decode cX3_longestWanted 1 = .ok (.invokevirtual 79, 3) := by decide +kernel
theorem dX3_longestWanted_4 : decode cX3_longestWanted 4 = .ok (.ifCond .eq 10, 3) := by decide +kernel
theorem dX3_longestWanted_7 : decode cX3_longestWanted 7 = .ok (.aload_n 0, 1) := by decide +kernel
theorem dX3_longestWanted_8 : decode cX3_longestWanted 8 = .ok (.invokevirtual 87, 3) := by decide +kernel
theorem dX3_longestWanted_11 : decode cX3_longestWanted 11 = .ok (.ifCond .ne 6, 3) := by decide +kernel
theorem dX3_longestWanted_14 : decode cX3_longestWanted 14 = .ok (.bipush 24, 2) := by decide +kernel
theorem dX3_longestWanted_16 : decode cX3_longestWanted 16 = .ok (.ireturn, 1) := by decide +kernel
theorem dX3_longestWanted_17 : decode cX3_longestWanted 17 = .ok (.aload_n 0, 1) := by decide +kernel
theorem dX3_longestWanted_18 : decode cX3_longestWanted 18 = .ok (.getfield 20, 3) := by decide +kernel
theorem dX3_longestWanted_21 : decode cX3_longestWanted 21 = .ok (.aload_n 0, 1) := by decide +kernel
theorem dX3_longestWanted_22 : decode cX3_longestWanted 22 = .ok (.getfield 26, 3) := by decide +kernel
theorem dX3_longestWanted_25 : decode cX3_longestWanted 25 = .ok (.invokestatic 93, 3) := by decide +kernel
theorem dX3_longestWanted_28 : decode cX3_longestWanted 28 = .ok (.iconst 1, 1) := by decide +kernel
theorem dX3_longestWanted_29 : decode cX3_longestWanted 29 = .ok (.isub, 1) := by decide +kernel
theorem dX3_longestWanted_30 : decode cX3_longestWanted 30 = .ok (.ireturn, 1) := by decide +kernel
theorem dX3_findPlaces_0 : decode cX3_findPlaces 0 = .ok (.aload 4, 2) := by decide +kernel
theorem dX3_findPlaces_2 : decode cX3_findPlaces 2 = .ok (.iload 5, 2) := by decide +kernel
theorem dX3_findPlaces_4 : decode cX3_findPlaces 4 = .ok (.invokevirtual 50, 3) := by decide +kernel
theorem dX3_findPlaces_7 : decode cX3_findPlaces 7 = .ok (.astore 6, 2) := by decide +kernel
theorem dX3_findPlaces_9 : decode cX3_findPlaces 9 = .ok (.iconst 0, 1) := by decide +kernel
theorem dX3_findPlaces_10 : decode cX3_findPlaces 10 = .ok (.istore 7, 2) := by decide +kernel
theorem dX3_findPlaces_12 : decode cX3_findPlaces 12 = .ok (.iconst 0, 1) := by decide +kernel
theorem dX3_findPlaces_13 : decode cX3_findPlaces 13 = .ok (.istore 8, 2) := by decide +kernel
theorem dX3_findPlaces_15 : decode cX3_findPlaces 15 = .ok (.iload 8, 2) := by decide +kernel
theorem dX3_findPlaces_17 : decode cX3_findPlaces 17 = .ok (.aload 6, 2) := by decide +kernel
theorem dX3_findPlaces_19 : decode cX3_findPlaces 19 = .ok (.arraylength, 1) := by decide +kernel
theorem dX3_findPlaces_20 : decode cX3_findPlaces 20 = .ok (.if_icmp .ge 78, 3) := by decide +kernel
theorem dX3_findPlaces_23 : decode cX3_findPlaces 23 = .ok (.iload 7, 2) := by decide +kernel
theorem dX3_findPlaces_25 : decode cX3_findPlaces 25 = .ok (.iload_n 1, 1) := by decide +kernel
theorem dX3_findPlaces_26 : decode cX3_findPlaces 26 = .ok (.if_icmp .ge 72, 3) := by decide +kernel
theorem dX3_findPlaces_29 : decode cX3_findPlaces 29 = .ok (.aload 6, 2) := by decide +kernel
theorem dX3_findPlaces_31 : decode cX3_findPlaces 31 = .ok (.iload 8, 2) := by decide +kernel
theorem dX3_findPlaces_33 : decode cX3_findPlaces 33 = .ok (.caload, 1) := by decide +kernel
theorem dX3_findPlaces_34 : decode cX3_findPlaces 34 = .ok (.aload_n 2, 1) := by decide +kernel
theorem dX3_findPlaces_35 : decode cX3_findPlaces 35 = .ok (.iload_n 3, 1) := by decide +kernel
theorem dX3_findPlaces_36 : decode cX3_findPlaces 36 = .ok (.caload, 1) := by decide +kernel
theorem dX3_findPlaces_37 : decode cX3_findPlaces 37 = .ok (.if_icmp .ne 55, 3) := by decide +kernel
theorem dX3_findPlaces_40 : decode cX3_findPlaces 40 = .ok (.aload 4, 2) := by decide +kernel
theorem dX3_findPlaces_42 : decode cX3_findPlaces 42 = .ok (.iload 5, 2) := by decide +kernel
theorem dX3_findPlaces_44 : decode cX3_findPlaces 44 = .ok (.iload 8, 2) := by decide +kernel
theorem dX3_findPlaces_46 : decode cX3_findPlaces 46 = .ok (.invokevirtual 54, 3) := by decide +kernel
theorem dX3_findPlaces_49 : decode cX3_findPlaces 49 = .ok (.ifCond .eq 43, 3) := by decide +kernel
theorem dX3_findPlaces_52 : decode cX3_findPlaces 52 = .ok (.aload_n 2, 1) := by decide +kernel
theorem dX3_findPlaces_53 : decode cX3_findPlaces 53 = .ok (.iload_n 3, 1) := by decide +kernel
theorem dX3_findPlaces_54 : decode cX3_findPlaces 54 = .ok (.aload 6, 2) := by decide +kernel
theorem dX3_findPlaces_56 : decode cX3_findPlaces 56 = .ok (.iload 8, 2) := by decide +kernel
theorem dX3_findPlaces_58 : decode cX3_findPlaces 58 = .ok (.iload_n 1, 1) := by decide +kernel
theorem dX3_findPlaces_59 : decode cX3_findPlaces 59 = .ok (.invokestatic 96, 3) := by decide +kernel
theorem dX3_findPlaces_62 : decode cX3_findPlaces 62 = .ok (.istore 9, 2) := by decide +kernel
theorem dX3_findPlaces_64 : decode cX3_findPlaces 64 = .ok (.iload 7, 2) := by decide +kernel
theorem dX3_findPlaces_66 : decode cX3_findPlaces 66 = .ok (.iload 9, 2) := by decide +kernel
theorem dX3_findPlaces_68 : decode cX3_findPlaces 68 = .ok (.if_icmp .ge 24, 3) := by decide +kernel
theorem dX3_findPlaces_71 : decode cX3_findPlaces 71 = .ok (.iload 7, 2) := by decide +kernel
theorem dX3_findPlaces_73 : decode cX3_findPlaces 73 = .ok (.iconst 1, 1) := by decide +kernel
theorem dX3_findPlaces_74 : decode cX3_findPlaces 74 = .ok (.iadd, 1) := by decide +kernel
theorem dX3_findPlaces_75 : decode cX3_findPlaces 75 = .ok (.aload_n 0, 1) := by decide +kernel
theorem dX3_findPlaces_76 : decode cX3_findPlaces 76 = .ok (.arraylength, 1) := by decide +kernel
theorem dX3_findPlaces_77 : decode cX3_findPlaces 77 = .ok (.if_icmp .ge 15, 3) := by decide +kernel
theorem dX3_findPlaces_80 : decode cX3_findPlaces 80 = .ok (.iinc 7 1, 3) := by decide +kernel
theorem dX3_findPlaces_83 : decode cX3_findPlaces 83 = .ok (.aload_n 0, 1) := by decide +kernel
theorem dX3_findPlaces_84 : decode cX3_findPlaces 84 = .ok (.iload 7, 2) := by decide +kernel
theorem dX3_findPlaces_86 : decode cX3_findPlaces 86 = .ok (.iload 8, 2) := by decide +kernel
theorem dX3_findPlaces_88 : decode cX3_findPlaces 88 = .ok (.iastore, 1) := by decide +kernel
theorem dX3_findPlaces_89 : decode cX3_findPlaces 89 = .ok (.goto (-25), 3) := by decide +kernel
theorem dX3_findPlaces_92 : decode cX3_findPlaces 92 = .ok (.iinc 8 1, 3) := by decide +kernel
theorem dX3_findPlaces_95 : decode cX3_findPlaces 95 = .ok (.goto (-80), 3) := by decide +kernel
theorem dX3_findPlaces_98 : decode cX3_findPlaces 98 = .ok (.iload 7, 2) := by decide +kernel
theorem dX3_findPlaces_100 : decode cX3_findPlaces 100 = .ok (.iconst 1, 1) := by decide +kernel
theorem dX3_findPlaces_101 : decode cX3_findPlaces 101 = .ok (.iadd, 1) := by decide +kernel
theorem dX3_findPlaces_102 : decode cX3_findPlaces 102 = .ok (.istore 8, 2) := by decide +kernel
theorem dX3_findPlaces_104 : decode cX3_findPlaces 104 = .ok (.iload 8, 2) := by decide +kernel
theorem dX3_findPlaces_106 : decode cX3_findPlaces 106 = .ok (.iload_n 1, 1) := by decide +kernel
theorem dX3_findPlaces_107 : decode cX3_findPlaces 107 = .ok (.if_icmp .gt 22, 3) := by decide +kernel
theorem dX3_findPlaces_110 : decode cX3_findPlaces 110 = .ok (.iload 8, 2) := by decide +kernel
theorem dX3_findPlaces_112 : decode cX3_findPlaces 112 = .ok (.aload_n 0, 1) := by decide +kernel
theorem dX3_findPlaces_113 : decode cX3_findPlaces 113 = .ok (.arraylength, 1) := by decide +kernel
theorem dX3_findPlaces_114 : decode cX3_findPlaces 114 = .ok (.if_icmp .ge 15, 3) := by decide +kernel
theorem dX3_findPlaces_117 : decode cX3_findPlaces 117 = .ok (.aload_n 0, 1) := by decide +kernel
theorem dX3_findPlaces_118 : decode cX3_findPlaces 118 = .ok (.iload 8, 2) := by decide +kernel
theorem dX3_findPlaces_120 : decode cX3_findPlaces 120 = .ok (.bipush (-6), 2) := by decide +kernel
theorem dX3_findPlaces_122 : decode cX3_findPlaces 122 = .ok (.iastore, 1) := by decide +kernel
theorem dX3_findPlaces_123 : decode cX3_findPlaces 123 = .ok (.iinc 8 1, 3) := by decide +kernel
theorem dX3_findPlaces_126 : decode cX3_findPlaces 126 = .ok (.goto (-22), 3) := by decide +kernel
theorem dX3_findPlaces_129 : decode cX3_findPlaces 129 = .ok (.return_, 1) := by decide +kernel
theorem dX3_isKnownBy_0 : decode cX3_isKnownBy 0 = .ok (.iconst 0, 1) := by decide +kernel
theorem dX3_isKnownBy_1 : decode cX3_isKnownBy 1 = .ok (.istore 4, 2) := by decide +kernel
theorem dX3_isKnownBy_3 : decode cX3_isKnownBy 3 = .ok (.iload 4, 2) := by decide +kernel
theorem dX3_isKnownBy_5 : decode cX3_isKnownBy 5 = .ok (.aload_n 2, 1) := by decide +kernel
theorem dX3_isKnownBy_6 : decode cX3_isKnownBy 6 = .ok (.getfield 35, 3) := by decide +kernel
theorem dX3_isKnownBy_9 : decode cX3_isKnownBy 9 = .ok (.invokevirtual 72, 3) := by decide +kernel
theorem dX3_isKnownBy_12 : decode cX3_isKnownBy 12 = .ok (.if_icmp .ge 27, 3) := by decide +kernel
theorem dX3_isKnownBy_15 : decode cX3_isKnownBy 15 = .ok (.iload 4, 2) := by decide +kernel
theorem dX3_isKnownBy_17 : decode cX3_isKnownBy 17 = .ok (.iload_n 3, 1) := by decide +kernel
theorem dX3_isKnownBy_18 : decode cX3_isKnownBy 18 = .ok (.if_icmp .eq 15, 3) := by decide +kernel
theorem dX3_isKnownBy_21 : decode cX3_isKnownBy 21 = .ok (.aload_n 0, 1) := by decide +kernel
theorem dX3_isKnownBy_22 : decode cX3_isKnownBy 22 = .ok (.iload 4, 2) := by decide +kernel
theorem dX3_isKnownBy_24 : decode cX3_isKnownBy 24 = .ok (.iload_n 1, 1) := by decide +kernel
theorem dX3_isKnownBy_25 : decode cX3_isKnownBy 25 = .ok (.invokevirtual 100, 3) := by decide +kernel
theorem dX3_isKnownBy_28 : decode cX3_isKnownBy 28 = .ok (.ifCond .lt 5, 3) := by decide +kernel
theorem dX3_isKnownBy_31 : decode cX3_isKnownBy 31 = .ok (.iconst 0, 1) := by decide +kernel
theorem dX3_isKnownBy_32 : decode cX3_isKnownBy 32 = .ok (.ireturn, 1) := by decide +kernel
theorem dX3_isKnownBy_33 : decode cX3_isKnownBy 33 = .ok (.iinc 4 1, 3) := by decide +kernel
theorem dX3_isKnownBy_36 : decode cX3_isKnownBy 36 = .ok (.goto (-33), 3) := by decide +kernel
theorem dX3_isKnownBy_39 : decode cX3_isKnownBy 39 = .ok (.iconst 1, 1) := by decide +kernel
theorem dX3_isKnownBy_40 : decode cX3_isKnownBy 40 = .ok (.ireturn, 1) := by decide +kernel
theorem dX3_isFirstFor_0 : decode cX3_isFirstFor 0 = .ok (.aload_n 0, 1) := by decide +kernel
theorem dX3_isFirstFor_1 : decode cX3_isFirstFor 1 = .ok (.iload_n 3, 1) := by decide +kernel
theorem dX3_isFirstFor_2 : decode cX3_isFirstFor 2 = .ok (.iload_n 1, 1) := by decide +kernel
theorem dX3_isFirstFor_3 : decode cX3_isFirstFor 3 = .ok (.invokevirtual 100, 3) := by decide +kernel
theorem dX3_isFirstFor_6 : decode cX3_isFirstFor 6 = .ok (.istore 4, 2) := by decide +kernel
theorem dX3_isFirstFor_8 : decode cX3_isFirstFor 8 = .ok (.iconst 0, 1) := by decide +kernel
theorem dX3_isFirstFor_9 : decode cX3_isFirstFor 9 = .ok (.istore 5, 2) := by decide +kernel
theorem dX3_isFirstFor_11 : decode cX3_isFirstFor 11 = .ok (.iload 5, 2) := by decide +kernel
theorem dX3_isFirstFor_13 : decode cX3_isFirstFor 13 = .ok (.aload_n 2, 1) := by decide +kernel
theorem dX3_isFirstFor_14 : decode cX3_isFirstFor 14 = .ok (.getfield 35, 3) := by decide +kernel
theorem dX3_isFirstFor_17 : decode cX3_isFirstFor 17 = .ok (.invokevirtual 72, 3) := by decide +kernel
theorem dX3_isFirstFor_20 : decode cX3_isFirstFor 20 = .ok (.if_icmp .ge 45, 3) := by decide +kernel
theorem dX3_isFirstFor_23 : decode cX3_isFirstFor 23 = .ok (.aload_n 0, 1) := by decide +kernel
theorem dX3_isFirstFor_24 : decode cX3_isFirstFor 24 = .ok (.iload 5, 2) := by decide +kernel
theorem dX3_isFirstFor_26 : decode cX3_isFirstFor 26 = .ok (.iload_n 1, 1) := by decide +kernel
theorem dX3_isFirstFor_27 : decode cX3_isFirstFor 27 = .ok (.invokevirtual 100, 3) := by decide +kernel
theorem dX3_isFirstFor_30 : decode cX3_isFirstFor 30 = .ok (.istore 6, 2) := by decide +kernel
theorem dX3_isFirstFor_32 : decode cX3_isFirstFor 32 = .ok (.iload 5, 2) := by decide +kernel
theorem dX3_isFirstFor_34 : decode cX3_isFirstFor 34 = .ok (.iload_n 3, 1) := by decide +kernel
theorem dX3_isFirstFor_35 : decode cX3_isFirstFor 35 = .ok (.if_icmp .eq 24, 3) := by decide +kernel
theorem dX3_isFirstFor_38 : decode cX3_isFirstFor 38 = .ok (.iload 6, 2) := by decide +kernel
theorem dX3_isFirstFor_40 : decode cX3_isFirstFor 40 = .ok (.ifCond .lt 19, 3) := by decide +kernel
theorem dX3_isFirstFor_43 : decode cX3_isFirstFor 43 = .ok (.aload_n 2, 1) := by decide +kernel
theorem dX3_isFirstFor_44 : decode cX3_isFirstFor 44 = .ok (.iload 5, 2) := by decide +kernel
theorem dX3_isFirstFor_46 : decode cX3_isFirstFor 46 = .ok (.iload 6, 2) := by decide +kernel
theorem dX3_isFirstFor_48 : decode cX3_isFirstFor 48 = .ok (.iload_n 3, 1) := by decide +kernel
theorem dX3_isFirstFor_49 : decode cX3_isFirstFor 49 = .ok (.iload 4, 2) := by decide +kernel
theorem dX3_isFirstFor_51 : decode cX3_isFirstFor 51 = .ok (.invokevirtual 103, 3) := by decide +kernel
theorem dX3_isFirstFor_54 : decode cX3_isFirstFor 54 = .ok (.ifCond .eq 5, 3) := by decide +kernel
theorem dX3_isFirstFor_57 : decode cX3_isFirstFor 57 = .ok (.iconst 0, 1) := by decide +kernel
theorem dX3_isFirstFor_58 : decode cX3_isFirstFor 58 = .ok (.ireturn, 1) := by decide +kernel
theorem dX3_isFirstFor_59 : decode cX3_isFirstFor 59 = .ok (.iinc 5 1, 3) := by decide +kernel
theorem dX3_isFirstFor_62 : decode cX3_isFirstFor 62 = .ok (.goto (-51), 3) := by decide +kernel
theorem dX3_isFirstFor_65 : decode cX3_isFirstFor 65 = .ok (.iconst 1, 1) := by decide +kernel
theorem dX3_isFirstFor_66 : decode cX3_isFirstFor 66 = .ok (.ireturn, 1) := by decide +kernel
theorem dX3_placeOf_0 : decode cX3_placeOf 0 = .ok (.iload_n 1, 1) := by decide +kernel
theorem dX3_placeOf_1 : decode cX3_placeOf 1 = .ok (.ifCond .lt 22, 3) := by decide +kernel
theorem dX3_placeOf_4 : decode cX3_placeOf 4 = .ok (.iload_n 1, 1) := by decide +kernel
theorem dX3_placeOf_5 : decode cX3_placeOf 5 = .ok (.aload_n 0, 1) := by decide +kernel
theorem dX3_placeOf_6 : decode cX3_placeOf 6 = .ok (.getfield 11, 3) := by decide +kernel
theorem dX3_placeOf_9 : decode cX3_placeOf 9 = .ok (.arraylength, 1) := by decide +kernel
theorem dX3_placeOf_10 : decode cX3_placeOf 10 = .ok (.if_icmp .ge 13, 3) := by decide +kernel
theorem dX3_placeOf_13 : decode cX3_placeOf 13 = .ok (.iload_n 2, 1) := by decide +kernel
theorem dX3_placeOf_14 : decode cX3_placeOf 14 = .ok (.ifCond .lt 9, 3) := by decide +kernel
theorem dX3_placeOf_17 : decode cX3_placeOf 17 = .ok (.iload_n 2, 1) := by decide +kernel
theorem dX3_placeOf_18 : decode cX3_placeOf 18 = .ok (.bipush 24, 2) := by decide +kernel
theorem dX3_placeOf_20 : decode cX3_placeOf 20 = .ok (.if_icmp .le 6, 3) := by decide +kernel
theorem dX3_placeOf_23 : decode cX3_placeOf 23 = .ok (.bipush (-6), 2) := by decide +kernel
theorem dX3_placeOf_25 : decode cX3_placeOf 25 = .ok (.ireturn, 1) := by decide +kernel
theorem dX3_placeOf_26 : decode cX3_placeOf 26 = .ok (.aload_n 0, 1) := by decide +kernel
theorem dX3_placeOf_27 : decode cX3_placeOf 27 = .ok (.getfield 11, 3) := by decide +kernel
theorem dX3_placeOf_30 : decode cX3_placeOf 30 = .ok (.iload_n 1, 1) := by decide +kernel
theorem dX3_placeOf_31 : decode cX3_placeOf 31 = .ok (.aaload, 1) := by decide +kernel
theorem dX3_placeOf_32 : decode cX3_placeOf 32 = .ok (.iload_n 2, 1) := by decide +kernel
theorem dX3_placeOf_33 : decode cX3_placeOf 33 = .ok (.iaload, 1) := by decide +kernel
theorem dX3_placeOf_34 : decode cX3_placeOf 34 = .ok (.ireturn, 1) := by decide +kernel
theorem dX4_init_0 : decode cX4_init 0 = .ok (.aload_n 0, 1) := by decide +kernel
theorem dX4_init_1 : decode cX4_init 1 = .ok (.invokespecial 3, 3) := by decide +kernel
theorem dX4_init_4 : decode cX4_init 4 = .ok (.aload_n 0, 1) := by decide +kernel
theorem dX4_init_5 : decode cX4_init 5 = .ok (.bipush 80, 2) := by decide +kernel
theorem dX4_init_7 : decode cX4_init 7 = .ok (.newarray .char, 2) := by decide +kernel
theorem dX4_init_9 : decode cX4_init 9 = .ok (.putfield 9, 3) := by decide +kernel
theorem dX4_init_12 : decode cX4_init 12 = .ok (.return_, 1) := by decide +kernel
theorem dX4_append_0 : decode cX4_append 0 = .ok (.aload_n 0, 1) := by decide +kernel
theorem dX4_append_1 : decode cX4_append 1 = .ok (.getfield 15, 3) := by decide +kernel
theorem dX4_append_4 : decode cX4_append 4 = .ok (.ifCond .lt 15, 3) := by decide +kernel
theorem dX4_append_7 : decode cX4_append 7 = .ok (.aload_n 0, 1) := by decide +kernel
theorem dX4_append_8 : decode cX4_append 8 = .ok (.getfield 15, 3) := by decide +kernel
theorem dX4_append_11 : decode cX4_append 11 = .ok (.aload_n 0, 1) := by decide +kernel
theorem dX4_append_12 : decode cX4_append 12 = .ok (.getfield 9, 3) := by decide +kernel
theorem dX4_append_15 : decode cX4_append 15 = .ok (.arraylength, 1) := by decide +kernel
theorem dX4_append_16 : decode cX4_append 16 = .ok (.if_icmp .lt 5, 3) := by decide +kernel
theorem dX4_append_19 : decode cX4_append 19 = .ok (.iconst 0, 1) := by decide +kernel
theorem dX4_append_20 : decode cX4_append 20 = .ok (.ireturn, 1) := by decide +kernel
theorem dX4_append_21 : decode cX4_append 21 = .ok (.aload_n 0, 1) := by decide +kernel
theorem dX4_append_22 : decode cX4_append 22 = .ok (.getfield 9, 3) := by decide +kernel
theorem dX4_append_25 : decode cX4_append 25 = .ok (.aload_n 0, 1) := by decide +kernel
theorem dX4_append_26 : decode cX4_append 26 = .ok (.getfield 15, 3) := by decide +kernel
theorem dX4_append_29 : decode cX4_append 29 = .ok (.iload_n 1, 1) := by decide +kernel
theorem dX4_append_30 : decode cX4_append 30 = .ok (.castore, 1) := by decide +kernel
theorem dX4_append_31 : decode cX4_append 31 = .ok (.aload_n 0, 1) := by decide +kernel
theorem dX4_append_32 : decode cX4_append 32 = .ok (.dup, 1) := by decide +kernel
theorem dX4_append_33 : decode cX4_append 33 = .ok (.getfield 15, 3) := by decide +kernel
theorem dX4_append_36 : decode cX4_append 36 = .ok (.iconst 1, 1) := by decide +kernel
theorem dX4_append_37 : decode cX4_append 37 = .ok (.iadd, 1) := by decide +kernel
theorem dX4_append_38 : decode cX4_append 38 = .ok (.putfield 15, 3) := by decide +kernel
theorem dX4_append_41 : decode cX4_append 41 = .ok (.iconst 1, 1) := by decide +kernel
theorem dX4_append_42 : decode cX4_append 42 = .ok (.ireturn, 1) := by decide +kernel
theorem dX4_makeEmpty_0 : decode cX4_makeEmpty 0 = .ok (.aload_n 0, 1) := by decide +kernel
theorem dX4_makeEmpty_1 : decode cX4_makeEmpty 1 = .ok (.iconst 0, 1) := by decide +kernel
theorem dX4_makeEmpty_2 : decode cX4_makeEmpty 2 = .ok (.putfield 15, 3) := by decide +kernel
theorem dX4_makeEmpty_5 : decode cX4_makeEmpty 5 = .ok (.return_, 1) := by decide +kernel
theorem dX4_rewind_0 : decode cX4_rewind 0 = .ok (.aload_n 0, 1) := by decide +kernel
theorem dX4_rewind_1 : decode cX4_rewind 1 = .ok (.iconst 0, 1) := by decide +kernel
theorem dX4_rewind_2 : decode cX4_rewind 2 = .ok (.putfield 19, 3) := by decide +kernel
theorem dX4_rewind_5 : decode cX4_rewind 5 = .ok (.return_, 1) := by decide +kernel
theorem dX4_isTitle_0 : decode cX4_isTitle 0 = .ok (.aload_n 0, 1) := by decide +kernel
theorem dX4_isTitle_1 : decode cX4_isTitle 1 = .ok (.invokevirtual 22, 3) := by decide +kernel
theorem dX4_isTitle_4 : decode cX4_isTitle 4 = .ok (.aload_n 0, 1) := by decide +kernel
theorem dX4_isTitle_5 : decode cX4_isTitle 5 = .ok (.invokevirtual 32, 3) := by decide +kernel
theorem dX4_isTitle_8 : decode cX4_isTitle 8 = .ok (.ifCond .eq 18, 3) := by decide +kernel
theorem dX4_isTitle_11 : decode cX4_isTitle 11 = .ok (.aload_n 0, 1) := by decide +kernel
theorem dX4_isTitle_12 : decode cX4_isTitle 12 = .ok (.getfield 19, 3) := by decide +kernel
theorem dX4_isTitle_15 : decode cX4_isTitle 15 = .ok (.aload_n 0, 1) := by decide +kernel
theorem dX4_isTitle_16 : decode cX4_isTitle 16 = .ok (.getfield 15, 3) := by decide +kernel
theorem dX4_isTitle_19 : decode cX4_isTitle 19 = .ok (.if_icmp .lt 7, 3) := by decide +kernel
theorem dX4_isTitle_22 : decode cX4_isTitle 22 = .ok (.iconst 1, 1) := by decide +kernel
theorem dX4_isTitle_23 : decode cX4_isTitle 23 = .ok (.goto 4, 3) := by decide +kernel
theorem dX4_isTitle_26 : decode cX4_isTitle 26 = .ok (.iconst 0, 1) := by decide +kernel
theorem dX4_isTitle_27 : decode cX4_isTitle 27 = .ok (.ireturn, 1) := by decide +kernel
theorem dX4_passTitle_0 : decode cX4_passTitle 0 = .ok (.aload_n 0, 1) := by decide +kernel
theorem dX4_passTitle_1 : decode cX4_passTitle 1 = .ok (.aload_n 0, 1) := by decide +kernel
theorem dX4_passTitle_2 : decode cX4_passTitle 2 = .ok (.getfield 19, 3) := by decide +kernel
theorem dX4_passTitle_5 : decode cX4_passTitle 5 = .ok (.putfield 52, 3) := by decide +kernel
theorem dX4_passTitle_8 : decode cX4_passTitle 8 = .ok (.iconst 1, 1) := by decide +kernel
theorem dX4_passTitle_9 : decode cX4_passTitle 9 = .ok (.istore_n 1, 1) := by decide +kernel
theorem dX4_passTitle_10 : decode cX4_passTitle 10 = .ok (.iconst 1, 1) := by decide +kernel
theorem dX4_passTitle_11 : decode cX4_passTitle 11 = .ok (.istore_n 2, 1) := by decide +kernel
theorem dX4_passTitle_12 : decode cX4_passTitle 12 = .ok (.iload_n 2, 1) := by decide +kernel
theorem dX4_passTitle_13 : decode cX4_passTitle 13 = .ok (.bipush 24, 2) := by decide +kernel
theorem dX4_passTitle_15 : decode cX4_passTitle 15 = .ok (.if_icmp .gt 87, 3) := by decide +kernel
theorem dX4_passTitle_18 : decode cX4_passTitle 18 = .ok (.aload_n 0, 1) := by decide +kernel
theorem dX4_passTitle_19 : decode cX4_passTitle 19 = .ok (.invokevirtual 49, 3) := by decide +kernel
theorem dX4_passTitle_22 : decode cX4_passTitle 22 = .ok (.ifCond .eq 80, 3) := by decide +kernel
theorem dX4_passTitle_25 : decode cX4_passTitle 25 = .ok (.aload_n 0, 1) := by decide +kernel
theorem dX4_passTitle_26 : decode cX4_passTitle 26 = .ok (.getfield 9, 3) := by decide +kernel
theorem dX4_passTitle_29 : decode cX4_passTitle 29 = .ok (.aload_n 0, 1) := by decide +kernel
theorem dX4_passTitle_30 : decode cX4_passTitle 30 = .ok (.getfield 19, 3) := by decide +kernel
theorem dX4_passTitle_33 : decode cX4_passTitle 33 = .ok (.caload, 1) := by decide +kernel
theorem dX4_passTitle_34 : decode cX4_passTitle 34 = .ok (.bipush 32, 2) := by decide +kernel
theorem dX4_passTitle_36 : decode cX4_passTitle 36 = .ok (.if_icmp .ne 7, 3) := by decide +kernel
theorem dX4_passTitle_39 : decode cX4_passTitle 39 = .ok (.iconst 1, 1) := by decide +kernel
theorem dX4_passTitle_40 : decode cX4_passTitle 40 = .ok (.goto 4, 3) := by decide +kernel
theorem dX4_passTitle_43 : decode cX4_passTitle 43 = .ok (.iconst 0, 1) := by decide +kernel
theorem dX4_passTitle_44 : decode cX4_passTitle 44 = .ok (.istore_n 3, 1) := by decide +kernel
theorem dX4_passTitle_45 : decode cX4_passTitle 45 = .ok (.iload_n 3, 1) := by decide +kernel
theorem dX4_passTitle_46 : decode cX4_passTitle 46 = .ok (.ifCond .eq 16, 3) := by decide +kernel
theorem dX4_passTitle_49 : decode cX4_passTitle 49 = .ok (.iload_n 1, 1) := by decide +kernel
theorem dX4_passTitle_50 : decode cX4_passTitle 50 = .ok (.ifCond .ne 52, 3) := by decide +kernel
theorem dX4_passTitle_53 : decode cX4_passTitle 53 = .ok (.iload_n 2, 1) := by decide +kernel
theorem dX4_passTitle_54 : decode cX4_passTitle 54 = .ok (.bipush 24, 2) := by decide +kernel
theorem dX4_passTitle_56 : decode cX4_passTitle 56 = .ok (.if_icmp .ne 6, 3) := by decide +kernel
theorem dX4_passTitle_59 : decode cX4_passTitle 59 = .ok (.goto 43, 3) := by decide +kernel
theorem dX4_passTitle_62 : decode cX4_passTitle 62 = .ok (.iload_n 3, 1) := by decide +kernel
theorem dX4_passTitle_63 : decode cX4_passTitle 63 = .ok (.ifCond .ne 21, 3) := by decide +kernel
theorem dX4_passTitle_66 : decode cX4_passTitle 66 = .ok (.aload_n 0, 1) := by decide +kernel
theorem dX4_passTitle_67 : decode cX4_passTitle 67 = .ok (.getfield 9, 3) := by decide +kernel
theorem dX4_passTitle_70 : decode cX4_passTitle 70 = .ok (.aload_n 0, 1) := by decide +kernel
theorem dX4_passTitle_71 : decode cX4_passTitle 71 = .ok (.getfield 19, 3) := by decide +kernel
theorem dX4_passTitle_74 : decode cX4_passTitle 74 = .ok (.caload, 1) := by decide +kernel
theorem dX4_passTitle_75 : decode cX4_passTitle 75 = .ok (.invokestatic 55, 3) := by decide +kernel
theorem dX4_passTitle_78 : decode cX4_passTitle 78 = .ok (.ifCond .ne 6, 3) := by decide +kernel
theorem dX4_passTitle_81 : decode cX4_passTitle 81 = .ok (.goto 21, 3) := by decide +kernel
theorem dX4_passTitle_84 : decode cX4_passTitle 84 = .ok (.iload_n 3, 1) := by decide +kernel
theorem dX4_passTitle_85 : decode cX4_passTitle 85 = .ok (.istore_n 1, 1) := by decide +kernel
theorem dX4_passTitle_86 : decode cX4_passTitle 86 = .ok (.aload_n 0, 1) := by decide +kernel
theorem dX4_passTitle_87 : decode cX4_passTitle 87 = .ok (.dup, 1) := by decide +kernel
theorem dX4_passTitle_88 : decode cX4_passTitle 88 = .ok (.getfield 19, 3) := by decide +kernel
theorem dX4_passTitle_91 : decode cX4_passTitle 91 = .ok (.iconst 1, 1) := by decide +kernel
theorem dX4_passTitle_92 : decode cX4_passTitle 92 = .ok (.iadd, 1) := by decide +kernel
theorem dX4_passTitle_93 : decode cX4_passTitle 93 = .ok (.putfield 19, 3) := by decide +kernel
theorem dX4_passTitle_96 : decode cX4_passTitle 96 = .ok (.iinc 2 1, 3) := by decide +kernel
theorem dX4_passTitle_99 : decode cX4_passTitle 99 = .ok (.goto (-87), 3) := by decide +kernel
theorem dX4_passTitle_102 : decode cX4_passTitle 102 = .ok (.aload_n 0, 1) := by decide +kernel
theorem dX4_passTitle_103 : decode cX4_passTitle 103 = .ok (.aload_n 0, 1) := by decide +kernel
theorem dX4_passTitle_104 : decode cX4_passTitle 104 = .ok (.getfield 19, 3) := by decide +kernel
theorem dX4_passTitle_107 : decode cX4_passTitle 107 = .ok (.putfield 59, 3) := by decide +kernel
theorem dX4_passTitle_110 : decode cX4_passTitle 110 = .ok (.iload_n 1, 1) := by decide +kernel
theorem dX4_passTitle_111 : decode cX4_passTitle 111 = .ok (.ifCond .ne 7, 3) := by decide +kernel
theorem dX4_passTitle_114 : decode cX4_passTitle 114 = .ok (.iconst 1, 1) := by decide +kernel
theorem dX4_passTitle_115 : decode cX4_passTitle 115 = .ok (.goto 4, 3) := by decide +kernel
theorem dX4_passTitle_118 : decode cX4_passTitle 118 = .ok (.iconst 0, 1) := by decide +kernel
theorem dX4_passTitle_119 : decode cX4_passTitle 119 = .ok (.ireturn, 1) := by decide +kernel
theorem dX4_hasSign_0 : decode cX4_hasSign 0 = .ok (.aload_n 0, 1) := by decide +kernel
theorem dX4_hasSign_1 : decode cX4_hasSign 1 = .ok (.getfield 19, 3) := by decide +kernel
theorem dX4_hasSign_4 : decode cX4_hasSign 4 = .ok (.ifCond .lt 30, 3) := by decide +kernel
theorem dX4_hasSign_7 : decode cX4_hasSign 7 = .ok (.aload_n 0, 1) := by decide +kernel
theorem dX4_hasSign_8 : decode cX4_hasSign 8 = .ok (.getfield 19, 3) := by decide +kernel
theorem dX4_hasSign_11 : decode cX4_hasSign 11 = .ok (.aload_n 0, 1) := by decide +kernel
theorem dX4_hasSign_12 : decode cX4_hasSign 12 = .ok (.getfield 15, 3) := by decide +kernel
theorem dX4_hasSign_15 : decode cX4_hasSign 15 = .ok (.if_icmp .ge 19, 3) := by decide +kernel
theorem dX4_hasSign_18 : decode cX4_hasSign 18 = .ok (.aload_n 0, 1) := by decide +kernel
theorem dX4_hasSign_19 : decode cX4_hasSign 19 = .ok (.getfield 19, 3) := by decide +kernel
theorem dX4_hasSign_22 : decode cX4_hasSign 22 = .ok (.aload_n 0, 1) := by decide +kernel
theorem dX4_hasSign_23 : decode cX4_hasSign 23 = .ok (.getfield 9, 3) := by decide +kernel
theorem dX4_hasSign_26 : decode cX4_hasSign 26 = .ok (.arraylength, 1) := by decide +kernel
theorem dX4_hasSign_27 : decode cX4_hasSign 27 = .ok (.if_icmp .ge 7, 3) := by decide +kernel
theorem dX4_hasSign_30 : decode cX4_hasSign 30 = .ok (.iconst 1, 1) := by decide +kernel
theorem dX4_hasSign_31 : decode cX4_hasSign 31 = .ok (.goto 4, 3) := by decide +kernel
theorem dX4_hasSign_34 : decode cX4_hasSign 34 = .ok (.iconst 0, 1) := by decide +kernel
theorem dX4_hasSign_35 : decode cX4_hasSign 35 = .ok (.ireturn, 1) := by decide +kernel
theorem dX4_isLetter_0 : decode cX4_isLetter 0 = .ok (.iload_n 0, 1) := by decide +kernel
theorem dX4_isLetter_1 : decode cX4_isLetter 1 = .ok (.bipush 97, 2) := by decide +kernel
theorem dX4_isLetter_3 : decode cX4_isLetter 3 = .ok (.if_icmp .lt 9, 3) := by decide +kernel
theorem dX4_isLetter_6 : decode cX4_isLetter 6 = .ok (.iload_n 0, 1) := by decide +kernel
theorem dX4_isLetter_7 : decode cX4_isLetter 7 = .ok (.bipush 122, 2) := by decide +kernel
theorem dX4_isLetter_9 : decode cX4_isLetter 9 = .ok (.if_icmp .le 10, 3) := by decide +kernel
theorem dX4_isLetter_12 : decode cX4_isLetter 12 = .ok (.iload_n 0, 1) := by decide +kernel
theorem dX4_isLetter_13 : decode cX4_isLetter 13 = .ok (.invokestatic 65, 3) := by decide +kernel
theorem dX4_isLetter_16 : decode cX4_isLetter 16 = .ok (.ifCond .eq 7, 3) := by decide +kernel
theorem dX4_isLetter_19 : decode cX4_isLetter 19 = .ok (.iconst 1, 1) := by decide +kernel
theorem dX4_isLetter_20 : decode cX4_isLetter 20 = .ok (.goto 4, 3) := by decide +kernel
theorem dX4_isLetter_23 : decode cX4_isLetter 23 = .ok (.iconst 0, 1) := by decide +kernel
theorem dX4_isLetter_24 : decode cX4_isLetter 24 = .ok (.ireturn, 1) := by decide +kernel
theorem dX4_isDigit_0 : decode cX4_isDigit 0 = .ok (.iload_n 0, 1) := by decide +kernel
theorem dX4_isDigit_1 : decode cX4_isDigit 1 = .ok (.bipush 48, 2) := by decide +kernel
theorem dX4_isDigit_3 : decode cX4_isDigit 3 = .ok (.if_icmp .lt 13, 3) := by decide +kernel
theorem dX4_isDigit_6 : decode cX4_isDigit 6 = .ok (.iload_n 0, 1) := by decide +kernel
theorem dX4_isDigit_7 : decode cX4_isDigit 7 = .ok (.bipush 57, 2) := by decide +kernel
theorem dX4_isDigit_9 : decode cX4_isDigit 9 = .ok (.if_icmp .gt 7, 3) := by decide +kernel
theorem dX4_isDigit_12 : decode cX4_isDigit 12 = .ok (.iconst 1, 1) := by decide +kernel
theorem dX4_isDigit_13 : decode cX4_isDigit 13 = .ok (.goto 4, 3) := by decide +kernel
theorem dX4_isDigit_16 : decode cX4_isDigit 16 = .ok (.iconst 0, 1) := by decide +kernel
theorem dX4_isDigit_17 : decode cX4_isDigit 17 = .ok (.ireturn, 1) := by decide +kernel
theorem dX4_passedTitle_0 : decode cX4_passedTitle 0 = .ok (.iconst 0, 1) := by decide +kernel
theorem dX4_passedTitle_1 : decode cX4_passedTitle 1 = .ok (.aload_n 0, 1) := by decide +kernel
theorem dX4_passedTitle_2 : decode cX4_passedTitle 2 = .ok (.getfield 59, 3) := by decide +kernel
theorem dX4_passedTitle_5 : decode cX4_passedTitle 5 = .ok (.aload_n 0, 1) := by decide +kernel
theorem dX4_passedTitle_6 : decode cX4_passedTitle 6 = .ok (.getfield 52, 3) := by decide +kernel
theorem dX4_passedTitle_9 : decode cX4_passedTitle 9 = .ok (.isub, 1) := by decide +kernel
theorem dX4_passedTitle_10 : decode cX4_passedTitle 10 = .ok (.invokestatic 81, 3) := by decide +kernel
theorem dX4_passedTitle_13 : decode cX4_passedTitle 13 = .ok (.newarray .char, 2) := by decide +kernel
theorem dX4_passedTitle_15 : decode cX4_passedTitle 15 = .ok (.astore_n 1, 1) := by decide +kernel
theorem dX4_passedTitle_16 : decode cX4_passedTitle 16 = .ok (.iconst 0, 1) := by decide +kernel
theorem dX4_passedTitle_17 : decode cX4_passedTitle 17 = .ok (.istore_n 2, 1) := by decide +kernel
theorem dX4_passedTitle_18 : decode cX4_passedTitle 18 = .ok (.iload_n 2, 1) := by decide +kernel
theorem dX4_passedTitle_19 : decode cX4_passedTitle 19 = .ok (.aload_n 1, 1) := by decide +kernel
theorem dX4_passedTitle_20 : decode cX4_passedTitle 20 = .ok (.arraylength, 1) := by decide +kernel
theorem dX4_passedTitle_21 : decode cX4_passedTitle 21 = .ok (.if_icmp .ge 37, 3) := by decide +kernel
theorem dX4_passedTitle_24 : decode cX4_passedTitle 24 = .ok (.aload_n 0, 1) := by decide +kernel
theorem dX4_passedTitle_25 : decode cX4_passedTitle 25 = .ok (.getfield 52, 3) := by decide +kernel
theorem dX4_passedTitle_28 : decode cX4_passedTitle 28 = .ok (.iload_n 2, 1) := by decide +kernel
theorem dX4_passedTitle_29 : decode cX4_passedTitle 29 = .ok (.iadd, 1) := by decide +kernel
theorem dX4_passedTitle_30 : decode cX4_passedTitle 30 = .ok (.aload_n 0, 1) := by decide +kernel
theorem dX4_passedTitle_31 : decode cX4_passedTitle 31 = .ok (.getfield 9, 3) := by decide +kernel
theorem dX4_passedTitle_34 : decode cX4_passedTitle 34 = .ok (.arraylength, 1) := by decide +kernel
theorem dX4_passedTitle_35 : decode cX4_passedTitle 35 = .ok (.if_icmp .ge 23, 3) := by decide +kernel
theorem dX4_passedTitle_38 : decode cX4_passedTitle 38 = .ok (.aload_n 1, 1) := by decide +kernel
theorem dX4_passedTitle_39 : decode cX4_passedTitle 39 = .ok (.iload_n 2, 1) := by decide +kernel
theorem dX4_passedTitle_40 : decode cX4_passedTitle 40 = .ok (.aload_n 0, 1) := by decide +kernel
theorem dX4_passedTitle_41 : decode cX4_passedTitle 41 = .ok (.getfield 9, 3) := by decide +kernel
theorem dX4_passedTitle_44 : decode cX4_passedTitle 44 = .ok (.aload_n 0, 1) := by decide +kernel
theorem dX4_passedTitle_45 : decode cX4_passedTitle 45 = .ok (.getfield 52, 3) := by decide +kernel
theorem dX4_passedTitle_48 : decode cX4_passedTitle 48 = .ok (.iload_n 2, 1) := by decide +kernel
theorem dX4_passedTitle_49 : decode cX4_passedTitle 49 = .ok (.iadd, 1) := by decide +kernel
theorem dX4_passedTitle_50 : decode cX4_passedTitle 50 = .ok (.caload, 1) := by decide +kernel
theorem dX4_passedTitle_51 : decode cX4_passedTitle 51 = .ok (.castore, 1) := by decide +kernel
theorem dX4_passedTitle_52 : decode cX4_passedTitle 52 = .ok (.iinc 2 1, 3) := by decide +kernel
theorem dX4_passedTitle_55 : decode cX4_passedTitle 55 = .ok (.goto (-37), 3) := by decide +kernel
theorem dX4_passedTitle_58 : decode cX4_passedTitle 58 = .ok (.aload_n 1, 1) := by decide +kernel
theorem dX4_passedTitle_59 : decode cX4_passedTitle 59 = .ok (.invokestatic 119, 3) := by decide +kernel
theorem dX4_passedTitle_62 : decode cX4_passedTitle 62 = .ok (.areturn, 1) := by decide +kernel
theorem dX5_init_0 : decode cX5_init 0 = .ok (.aload_n 0, 1) := by decide +kernel
theorem dX5_init_1 : decode cX5_init 1 = .ok (.invokespecial 3, 3) := by decide +kernel
theorem dX5_init_4 : decode cX5_init 4 = .ok (.aload_n 0, 1) := by decide +kernel
theorem dX5_init_5 : decode cX5_init 5 = .ok (.aload_n 1, 1) := by decide +kernel
theorem dX5_init_6 : decode cX5_init 6 = .ok (.putfield 9, 3) := by decide +kernel
theorem dX5_init_9 : decode cX5_init 9 = .ok (.aload_n 0, 1) := by decide +kernel
theorem dX5_init_10 : decode cX5_init 10 = .ok (.aload_n 2, 1) := by decide +kernel
theorem dX5_init_11 : decode cX5_init 11 = .ok (.putfield 15, 3) := by decide +kernel
theorem dX5_init_14 : decode cX5_init 14 = .ok (.aload_n 0, 1) := by decide +kernel
theorem dX5_init_15 : decode cX5_init 15 = .ok (.iload_n 3, 1) := by decide +kernel
theorem dX5_init_16 : decode cX5_init 16 = .ok (.putfield 18, 3) := by decide +kernel
theorem dX5_init_19 : decode cX5_init 19 = .ok (.return_, 1) := by decide +kernel
theorem dX5_unused_0 : decode cX5_unused 0 = .ok (.new 10, 3) := by decide +kernel
theorem dX5_unused_3 : decode cX5_unused 3 = .ok (.dup, 1) := by decide +kernel
theorem dX5_unused_4 : decode cX5_unused 4 = .ok (.aload_n 0, 1) := by decide +kernel
theorem dX5_unused_5 : decode cX5_unused 5 = .ok (.aload_n 0, 1) := by decide +kernel
theorem dX5_unused_6 : decode cX5_unused 6 = .ok (.invokestatic 22, 3) := by decide +kernel
theorem dX5_unused_9 : decode cX5_unused 9 = .ok (.iconst 0, 1) := by decide +kernel
theorem dX5_unused_10 : decode cX5_unused 10 = .ok (.invokespecial 26, 3) := by decide +kernel
theorem dX5_unused_13 : decode cX5_unused 13 = .ok (.areturn, 1) := by decide +kernel
theorem dX5_initialsOf_0 : decode cX5_initialsOf 0 = .ok (.aload_n 0, 1) := by decide +kernel
theorem dX5_initialsOf_1 : decode cX5_initialsOf 1 = .ok (.invokestatic 29, 3) := by decide +kernel
theorem dX5_initialsOf_4 : decode cX5_initialsOf 4 = .ok (.newarray .char, 2) := by decide +kernel
theorem dX5_initialsOf_6 : decode cX5_initialsOf 6 = .ok (.astore_n 1, 1) := by decide +kernel
theorem dX5_initialsOf_7 : decode cX5_initialsOf 7 = .ok (.iconst 0, 1) := by decide +kernel
theorem dX5_initialsOf_8 : decode cX5_initialsOf 8 = .ok (.istore_n 2, 1) := by decide +kernel
theorem dX5_initialsOf_9 : decode cX5_initialsOf 9 = .ok (.iconst 0, 1) := by decide +kernel
theorem dX5_initialsOf_10 : decode cX5_initialsOf 10 = .ok (.istore_n 3, 1) := by decide +kernel
theorem dX5_initialsOf_11 : decode cX5_initialsOf 11 = .ok (.iload_n 3, 1) := by decide +kernel
theorem dX5_initialsOf_12 : decode cX5_initialsOf 12 = .ok (.aload_n 0, 1) := by decide +kernel
theorem dX5_initialsOf_13 : decode cX5_initialsOf 13 = .ok (.arraylength, 1) := by decide +kernel
theorem dX5_initialsOf_14 : decode cX5_initialsOf 14 = .ok (.if_icmp .ge 38, 3) := by decide +kernel
theorem dX5_initialsOf_17 : decode cX5_initialsOf 17 = .ok (.iload_n 2, 1) := by decide +kernel
theorem dX5_initialsOf_18 : decode cX5_initialsOf 18 = .ok (.aload_n 1, 1) := by decide +kernel
theorem dX5_initialsOf_19 : decode cX5_initialsOf 19 = .ok (.arraylength, 1) := by decide +kernel
theorem dX5_initialsOf_20 : decode cX5_initialsOf 20 = .ok (.if_icmp .ge 32, 3) := by decide +kernel
theorem dX5_initialsOf_23 : decode cX5_initialsOf 23 = .ok (.iload_n 3, 1) := by decide +kernel
theorem dX5_initialsOf_24 : decode cX5_initialsOf 24 = .ok (.ifCond .eq 13, 3) := by decide +kernel
theorem dX5_initialsOf_27 : decode cX5_initialsOf 27 = .ok (.aload_n 0, 1) := by decide +kernel
theorem dX5_initialsOf_28 : decode cX5_initialsOf 28 = .ok (.iload_n 3, 1) := by decide +kernel
theorem dX5_initialsOf_29 : decode cX5_initialsOf 29 = .ok (.iconst 1, 1) := by decide +kernel
theorem dX5_initialsOf_30 : decode cX5_initialsOf 30 = .ok (.isub, 1) := by decide +kernel
theorem dX5_initialsOf_31 : decode cX5_initialsOf 31 = .ok (.caload, 1) := by decide +kernel
theorem dX5_initialsOf_32 : decode cX5_initialsOf 32 = .ok (.bipush 32, 2) := by decide +kernel
theorem dX5_initialsOf_34 : decode cX5_initialsOf 34 = .ok (.if_icmp .ne 12, 3) := by decide +kernel
theorem dX5_initialsOf_37 : decode cX5_initialsOf 37 = .ok (.aload_n 1, 1) := by decide +kernel
theorem dX5_initialsOf_38 : decode cX5_initialsOf 38 = .ok (.iload_n 2, 1) := by decide +kernel
theorem dX5_initialsOf_39 : decode cX5_initialsOf 39 = .ok (.aload_n 0, 1) := by decide +kernel
theorem dX5_initialsOf_40 : decode cX5_initialsOf 40 = .ok (.iload_n 3, 1) := by decide +kernel
theorem dX5_initialsOf_41 : decode cX5_initialsOf 41 = .ok (.caload, 1) := by decide +kernel
theorem dX5_initialsOf_42 : decode cX5_initialsOf 42 = .ok (.castore, 1) := by decide +kernel
theorem dX5_initialsOf_43 : decode cX5_initialsOf 43 = .ok (.iinc 2 1, 3) := by decide +kernel
theorem dX5_initialsOf_46 : decode cX5_initialsOf 46 = .ok (.iinc 3 1, 3) := by decide +kernel
theorem dX5_initialsOf_49 : decode cX5_initialsOf 49 = .ok (.goto (-38), 3) := by decide +kernel
theorem dX5_initialsOf_52 : decode cX5_initialsOf 52 = .ok (.aload_n 1, 1) := by decide +kernel
theorem dX5_initialsOf_53 : decode cX5_initialsOf 53 = .ok (.areturn, 1) := by decide +kernel
theorem dX5_wordCount_0 : decode cX5_wordCount 0 = .ok (.iconst 1, 1) := by decide +kernel
theorem dX5_wordCount_1 : decode cX5_wordCount 1 = .ok (.istore_n 1, 1) := by decide +kernel
theorem dX5_wordCount_2 : decode cX5_wordCount 2 = .ok (.iconst 0, 1) := by decide +kernel
theorem dX5_wordCount_3 : decode cX5_wordCount 3 = .ok (.istore_n 2, 1) := by decide +kernel
theorem dX5_wordCount_4 : decode cX5_wordCount 4 = .ok (.iload_n 2, 1) := by decide +kernel
theorem dX5_wordCount_5 : decode cX5_wordCount 5 = .ok (.aload_n 0, 1) := by decide +kernel
theorem dX5_wordCount_6 : decode cX5_wordCount 6 = .ok (.arraylength, 1) := by decide +kernel
theorem dX5_wordCount_7 : decode cX5_wordCount 7 = .ok (.if_icmp .ge 20, 3) := by decide +kernel
theorem dX5_wordCount_10 : decode cX5_wordCount 10 = .ok (.aload_n 0, 1) := by decide +kernel
theorem dX5_wordCount_11 : decode cX5_wordCount 11 = .ok (.iload_n 2, 1) := by decide +kernel
theorem dX5_wordCount_12 : decode cX5_wordCount 12 = .ok (.caload, 1) := by decide +kernel
theorem dX5_wordCount_13 : decode cX5_wordCount 13 = .ok (.bipush 32, 2) := by decide +kernel
theorem dX5_wordCount_15 : decode cX5_wordCount 15 = .ok (.if_icmp .ne 6, 3) := by decide +kernel
theorem dX5_wordCount_18 : decode cX5_wordCount 18 = .ok (.iinc 1 1, 3) := by decide +kernel
theorem dX5_wordCount_21 : decode cX5_wordCount 21 = .ok (.iinc 2 1, 3) := by decide +kernel
theorem dX5_wordCount_24 : decode cX5_wordCount 24 = .ok (.goto (-20), 3) := by decide +kernel
theorem dX5_wordCount_27 : decode cX5_wordCount 27 = .ok (.iload_n 1, 1) := by decide +kernel
theorem dX5_wordCount_28 : decode cX5_wordCount 28 = .ok (.ireturn, 1) := by decide +kernel
theorem dX5_usedOnceMore_0 : decode cX5_usedOnceMore 0 = .ok (.new 10, 3) := by decide +kernel
theorem dX5_usedOnceMore_3 : decode cX5_usedOnceMore 3 = .ok (.dup, 1) := by decide +kernel
theorem dX5_usedOnceMore_4 : decode cX5_usedOnceMore 4 = .ok (.aload_n 0, 1) := by decide +kernel
theorem dX5_usedOnceMore_5 : decode cX5_usedOnceMore 5 = .ok (.getfield 9, 3) := by decide +kernel
theorem dX5_usedOnceMore_8 : decode cX5_usedOnceMore 8 = .ok (.aload_n 0, 1) := by decide +kernel
theorem dX5_usedOnceMore_9 : decode cX5_usedOnceMore 9 = .ok (.getfield 15, 3) := by decide +kernel
theorem dX5_usedOnceMore_12 : decode cX5_usedOnceMore 12 = .ok (.aload_n 0, 1) := by decide +kernel
theorem dX5_usedOnceMore_13 : decode cX5_usedOnceMore 13 = .ok (.getfield 18, 3) := by decide +kernel
theorem dX5_usedOnceMore_16 : decode cX5_usedOnceMore 16 = .ok (.iconst 1, 1) := by decide +kernel
theorem dX5_usedOnceMore_17 : decode cX5_usedOnceMore 17 = .ok (.iadd, 1) := by decide +kernel
theorem dX5_usedOnceMore_18 : decode cX5_usedOnceMore 18 = .ok (.invokespecial 26, 3) := by decide +kernel
theorem dX5_usedOnceMore_21 : decode cX5_usedOnceMore 21 = .ok (.areturn, 1) := by decide +kernel
theorem dX5_run_0 : decode cX5_run 0 = .ok (.iload_n 1, 1) := by decide +kernel
theorem dX5_run_1 : decode cX5_run 1 = .ok (.iconst 3, 1) := by decide +kernel
theorem dX5_run_2 : decode cX5_run 2 = .ok (.if_icmp .ne 10, 3) := by decide +kernel
theorem dX5_run_5 : decode cX5_run 5 = .ok (.aload_n 0, 1) := by decide +kernel
theorem dX5_run_6 : decode cX5_run 6 = .ok (.getfield 15, 3) := by decide +kernel
theorem dX5_run_9 : decode cX5_run 9 = .ok (.goto 7, 3) := by decide +kernel
theorem dX5_run_12 : decode cX5_run 12 = .ok (.aload_n 0, 1) := by decide +kernel
theorem dX5_run_13 : decode cX5_run 13 = .ok (.getfield 9, 3) := by decide +kernel
theorem dX5_run_16 : decode cX5_run 16 = .ok (.areturn, 1) := by decide +kernel
theorem dX5_startsPiece_0 : decode cX5_startsPiece 0 = .ok (.iload_n 1, 1) := by decide +kernel
theorem dX5_startsPiece_1 : decode cX5_startsPiece 1 = .ok (.iconst 3, 1) := by decide +kernel
theorem dX5_startsPiece_2 : decode cX5_startsPiece 2 = .ok (.if_icmp .ne 22, 3) := by decide +kernel
theorem dX5_startsPiece_5 : decode cX5_startsPiece 5 = .ok (.iload_n 2, 1) := by decide +kernel
theorem dX5_startsPiece_6 : decode cX5_startsPiece 6 = .ok (.ifCond .lt 16, 3) := by decide +kernel
theorem dX5_startsPiece_9 : decode cX5_startsPiece 9 = .ok (.iload_n 2, 1) := by decide +kernel
theorem dX5_startsPiece_10 : decode cX5_startsPiece 10 = .ok (.aload_n 0, 1) := by decide +kernel
theorem dX5_startsPiece_11 : decode cX5_startsPiece 11 = .ok (.getfield 15, 3) := by decide +kernel
theorem dX5_startsPiece_14 : decode cX5_startsPiece 14 = .ok (.arraylength, 1) := by decide +kernel
theorem dX5_startsPiece_15 : decode cX5_startsPiece 15 = .ok (.if_icmp .ge 7, 3) := by decide +kernel
theorem dX5_startsPiece_18 : decode cX5_startsPiece 18 = .ok (.iconst 1, 1) := by decide +kernel
theorem dX5_startsPiece_19 : decode cX5_startsPiece 19 = .ok (.goto 4, 3) := by decide +kernel
theorem dX5_startsPiece_22 : decode cX5_startsPiece 22 = .ok (.iconst 0, 1) := by decide +kernel
theorem dX5_startsPiece_23 : decode cX5_startsPiece 23 = .ok (.ireturn, 1) := by decide +kernel
theorem dX5_startsPiece_24 : decode cX5_startsPiece 24 = .ok (.iload_n 2, 1) := by decide +kernel
theorem dX5_startsPiece_25 : decode cX5_startsPiece 25 = .ok (.ifCond .lt 12, 3) := by decide +kernel
theorem dX5_startsPiece_28 : decode cX5_startsPiece 28 = .ok (.iload_n 2, 1) := by decide +kernel
theorem dX5_startsPiece_29 : decode cX5_startsPiece 29 = .ok (.aload_n 0, 1) := by decide +kernel
theorem dX5_startsPiece_30 : decode cX5_startsPiece 30 = .ok (.getfield 9, 3) := by decide +kernel
theorem dX5_startsPiece_33 : decode cX5_startsPiece 33 = .ok (.arraylength, 1) := by decide +kernel
theorem dX5_startsPiece_34 : decode cX5_startsPiece 34 = .ok (.if_icmp .lt 5, 3) := by decide +kernel
theorem dX5_startsPiece_37 : decode cX5_startsPiece 37 = .ok (.iconst 0, 1) := by decide +kernel
theorem dX5_startsPiece_38 : decode cX5_startsPiece 38 = .ok (.ireturn, 1) := by decide +kernel
theorem dX5_startsPiece_39 : decode cX5_startsPiece 39 = .ok (.iload_n 1, 1) := by decide +kernel
theorem dX5_startsPiece_40 : decode cX5_startsPiece 40 = .ok (.lookupswitch 61 #[(1, 28), (2, 38)], 28) := by decide +kernel
theorem dX5_startsPiece_68 : decode cX5_startsPiece 68 = .ok (.iload_n 2, 1) := by decide +kernel
theorem dX5_startsPiece_69 : decode cX5_startsPiece 69 = .ok (.ifCond .ne 7, 3) := by decide +kernel
theorem dX5_startsPiece_72 : decode cX5_startsPiece 72 = .ok (.iconst 1, 1) := by decide +kernel
theorem dX5_startsPiece_73 : decode cX5_startsPiece 73 = .ok (.goto 4, 3) := by decide +kernel
theorem dX5_startsPiece_76 : decode cX5_startsPiece 76 = .ok (.iconst 0, 1) := by decide +kernel
theorem dX5_startsPiece_77 : decode cX5_startsPiece 77 = .ok (.ireturn, 1) := by decide +kernel
theorem dX5_startsPiece_78 : decode cX5_startsPiece 78 = .ok (.iload_n 2, 1) := by decide +kernel
theorem dX5_startsPiece_79 : decode cX5_startsPiece 79 = .ok (.ifCond .eq 16, 3) := by decide +kernel
theorem dX5_startsPiece_82 : decode cX5_startsPiece 82 = .ok (.aload_n 0, 1) := by decide +kernel
theorem dX5_startsPiece_83 : decode cX5_startsPiece 83 = .ok (.getfield 9, 3) := by decide +kernel
theorem dX5_startsPiece_86 : decode cX5_startsPiece 86 = .ok (.iload_n 2, 1) := by decide +kernel
theorem dX5_startsPiece_87 : decode cX5_startsPiece 87 = .ok (.iconst 1, 1) := by decide +kernel
theorem dX5_startsPiece_88 : decode cX5_startsPiece 88 = .ok (.isub, 1) := by decide +kernel
theorem dX5_startsPiece_89 : decode cX5_startsPiece 89 = .ok (.caload, 1) := by decide +kernel
theorem dX5_startsPiece_90 : decode cX5_startsPiece 90 = .ok (.bipush 32, 2) := by decide +kernel
theorem dX5_startsPiece_92 : decode cX5_startsPiece 92 = .ok (.if_icmp .ne 7, 3) := by decide +kernel
theorem dX5_startsPiece_95 : decode cX5_startsPiece 95 = .ok (.iconst 1, 1) := by decide +kernel
theorem dX5_startsPiece_96 : decode cX5_startsPiece 96 = .ok (.goto 4, 3) := by decide +kernel
theorem dX5_startsPiece_99 : decode cX5_startsPiece 99 = .ok (.iconst 0, 1) := by decide +kernel
theorem dX5_startsPiece_100 : decode cX5_startsPiece 100 = .ok (.ireturn, 1) := by decide +kernel
theorem dX5_startsPiece_101 : decode cX5_startsPiece 101 = .ok (.aload_n 0, 1) := by decide +kernel
theorem dX5_startsPiece_102 : decode cX5_startsPiece 102 = .ok (.getfield 9, 3) := by decide +kernel
theorem dX5_startsPiece_105 : decode cX5_startsPiece 105 = .ok (.iload_n 2, 1) := by decide +kernel
theorem dX5_startsPiece_106 : decode cX5_startsPiece 106 = .ok (.caload, 1) := by decide +kernel
theorem dX5_startsPiece_107 : decode cX5_startsPiece 107 = .ok (.bipush 32, 2) := by decide +kernel
theorem dX5_startsPiece_109 : decode cX5_startsPiece 109 = .ok (.if_icmp .eq 7, 3) := by decide +kernel
theorem dX5_startsPiece_112 : decode cX5_startsPiece 112 = .ok (.iconst 1, 1) := by decide +kernel
theorem dX5_startsPiece_113 : decode cX5_startsPiece 113 = .ok (.goto 4, 3) := by decide +kernel
theorem dX5_startsPiece_116 : decode cX5_startsPiece 116 = .ok (.iconst 0, 1) := by decide +kernel
theorem dX5_startsPiece_117 : decode cX5_startsPiece 117 = .ok (.ireturn, 1) := by decide +kernel
theorem dX5_placeOf_0 : decode cX5_placeOf 0 = .ok (.aload_n 0, 1) := by decide +kernel
theorem dX5_placeOf_1 : decode cX5_placeOf 1 = .ok (.iload_n 3, 1) := by decide +kernel
theorem dX5_placeOf_2 : decode cX5_placeOf 2 = .ok (.invokevirtual 33, 3) := by decide +kernel
theorem dX5_placeOf_5 : decode cX5_placeOf 5 = .ok (.astore 4, 2) := by decide +kernel
theorem dX5_placeOf_7 : decode cX5_placeOf 7 = .ok (.iconst 0, 1) := by decide +kernel
theorem dX5_placeOf_8 : decode cX5_placeOf 8 = .ok (.istore 5, 2) := by decide +kernel
theorem dX5_placeOf_10 : decode cX5_placeOf 10 = .ok (.iload 5, 2) := by decide +kernel
theorem dX5_placeOf_12 : decode cX5_placeOf 12 = .ok (.iload_n 2, 1) := by decide +kernel
theorem dX5_placeOf_13 : decode cX5_placeOf 13 = .ok (.iadd, 1) := by decide +kernel
theorem dX5_placeOf_14 : decode cX5_placeOf 14 = .ok (.aload 4, 2) := by decide +kernel
theorem dX5_placeOf_16 : decode cX5_placeOf 16 = .ok (.arraylength, 1) := by decide +kernel
theorem dX5_placeOf_17 : decode cX5_placeOf 17 = .ok (.if_icmp .gt 36, 3) := by decide +kernel
theorem dX5_placeOf_20 : decode cX5_placeOf 20 = .ok (.aload_n 0, 1) := by decide +kernel
theorem dX5_placeOf_21 : decode cX5_placeOf 21 = .ok (.iload_n 3, 1) := by decide +kernel
theorem dX5_placeOf_22 : decode cX5_placeOf 22 = .ok (.iload 5, 2) := by decide +kernel
theorem dX5_placeOf_24 : decode cX5_placeOf 24 = .ok (.invokevirtual 37, 3) := by decide +kernel
theorem dX5_placeOf_27 : decode cX5_placeOf 27 = .ok (.ifCond .eq 20, 3) := by decide +kernel
theorem dX5_placeOf_30 : decode cX5_placeOf 30 = .ok (.aload_n 1, 1) := by decide +kernel
theorem dX5_placeOf_31 : decode cX5_placeOf 31 = .ok (.iconst 0, 1) := by decide +kernel
theorem dX5_placeOf_32 : decode cX5_placeOf 32 = .ok (.aload 4, 2) := by decide +kernel
theorem dX5_placeOf_34 : decode cX5_placeOf 34 = .ok (.iload 5, 2) := by decide +kernel
theorem dX5_placeOf_36 : decode cX5_placeOf 36 = .ok (.iload_n 2, 1) := by decide +kernel
theorem dX5_placeOf_37 : decode cX5_placeOf 37 = .ok (.invokestatic 41, 3) := by decide +kernel
theorem dX5_placeOf_40 : decode cX5_placeOf 40 = .ok (.iload_n 2, 1) := by decide +kernel
theorem dX5_placeOf_41 : decode cX5_placeOf 41 = .ok (.if_icmp .ne 6, 3) := by decide +kernel
theorem dX5_placeOf_44 : decode cX5_placeOf 44 = .ok (.iload 5, 2) := by decide +kernel
theorem dX5_placeOf_46 : decode cX5_placeOf 46 = .ok (.ireturn, 1) := by decide +kernel
theorem dX5_placeOf_47 : decode cX5_placeOf 47 = .ok (.iinc 5 1, 3) := by decide +kernel
theorem dX5_placeOf_50 : decode cX5_placeOf 50 = .ok (.goto (-40), 3) := by decide +kernel
theorem dX5_placeOf_53 : decode cX5_placeOf 53 = .ok (.bipush (-6), 2) := by decide +kernel
theorem dX5_placeOf_55 : decode cX5_placeOf 55 = .ok (.ireturn, 1) := by decide +kernel
theorem dX5_commonRun_0 : decode cX5_commonRun 0 = .ok (.iconst 0, 1) := by decide +kernel
theorem dX5_commonRun_1 : decode cX5_commonRun 1 = .ok (.istore_n 2, 1) := by decide +kernel
theorem dX5_commonRun_2 : decode cX5_commonRun 2 = .ok (.iconst 0, 1) := by decide +kernel
theorem dX5_commonRun_3 : decode cX5_commonRun 3 = .ok (.istore_n 3, 1) := by decide +kernel
theorem dX5_commonRun_4 : decode cX5_commonRun 4 = .ok (.iload_n 3, 1) := by decide +kernel
theorem dX5_commonRun_5 : decode cX5_commonRun 5 = .ok (.aload_n 0, 1) := by decide +kernel
theorem dX5_commonRun_6 : decode cX5_commonRun 6 = .ok (.getfield 9, 3) := by decide +kernel
theorem dX5_commonRun_9 : decode cX5_commonRun 9 = .ok (.arraylength, 1) := by decide +kernel
theorem dX5_commonRun_10 : decode cX5_commonRun 10 = .ok (.if_icmp .ge 49, 3) := by decide +kernel
theorem dX5_commonRun_13 : decode cX5_commonRun 13 = .ok (.iconst 0, 1) := by decide +kernel
theorem dX5_commonRun_14 : decode cX5_commonRun 14 = .ok (.istore 4, 2) := by decide +kernel
theorem dX5_commonRun_16 : decode cX5_commonRun 16 = .ok (.iload 4, 2) := by decide +kernel
theorem dX5_commonRun_18 : decode cX5_commonRun 18 = .ok (.aload_n 1, 1) := by decide +kernel
theorem dX5_commonRun_19 : decode cX5_commonRun 19 = .ok (.getfield 9, 3) := by decide +kernel
theorem dX5_commonRun_22 : decode cX5_commonRun 22 = .ok (.arraylength, 1) := by decide +kernel
theorem dX5_commonRun_23 : decode cX5_commonRun 23 = .ok (.if_icmp .ge 30, 3) := by decide +kernel
theorem dX5_commonRun_26 : decode cX5_commonRun 26 = .ok (.iload_n 2, 1) := by decide +kernel
theorem dX5_commonRun_27 : decode cX5_commonRun 27 = .ok (.aload_n 0, 1) := by decide +kernel
theorem dX5_commonRun_28 : decode cX5_commonRun 28 = .ok (.getfield 9, 3) := by decide +kernel
theorem dX5_commonRun_31 : decode cX5_commonRun 31 = .ok (.iload_n 3, 1) := by decide +kernel
theorem dX5_commonRun_32 : decode cX5_commonRun 32 = .ok (.aload_n 1, 1) := by decide +kernel
theorem dX5_commonRun_33 : decode cX5_commonRun 33 = .ok (.getfield 9, 3) := by decide +kernel
theorem dX5_commonRun_36 : decode cX5_commonRun 36 = .ok (.iload 4, 2) := by decide +kernel
theorem dX5_commonRun_38 : decode cX5_commonRun 38 = .ok (.bipush 24, 2) := by decide +kernel
theorem dX5_commonRun_40 : decode cX5_commonRun 40 = .ok (.invokestatic 41, 3) := by decide +kernel
theorem dX5_commonRun_43 : decode cX5_commonRun 43 = .ok (.invokestatic 45, 3) := by decide +kernel
theorem dX5_commonRun_46 : decode cX5_commonRun 46 = .ok (.istore_n 2, 1) := by decide +kernel
theorem dX5_commonRun_47 : decode cX5_commonRun 47 = .ok (.iinc 4 1, 3) := by decide +kernel
theorem dX5_commonRun_50 : decode cX5_commonRun 50 = .ok (.goto (-34), 3) := by decide +kernel
theorem dX5_commonRun_53 : decode cX5_commonRun 53 = .ok (.iinc 3 1, 3) := by decide +kernel
theorem dX5_commonRun_56 : decode cX5_commonRun 56 = .ok (.goto (-52), 3) := by decide +kernel
theorem dX5_commonRun_59 : decode cX5_commonRun 59 = .ok (.iload_n 2, 1) := by decide +kernel
theorem dX5_commonRun_60 : decode cX5_commonRun 60 = .ok (.ireturn, 1) := by decide +kernel
theorem dX5_hasLettersOf_0 : decode cX5_hasLettersOf 0 = .ok (.aload_n 0, 1) := by decide +kernel
theorem dX5_hasLettersOf_1 : decode cX5_hasLettersOf 1 = .ok (.getfield 9, 3) := by decide +kernel
theorem dX5_hasLettersOf_4 : decode cX5_hasLettersOf 4 = .ok (.arraylength, 1) := by decide +kernel
theorem dX5_hasLettersOf_5 : decode cX5_hasLettersOf 5 = .ok (.aload_n 1, 1) := by decide +kernel
theorem dX5_hasLettersOf_6 : decode cX5_hasLettersOf 6 = .ok (.getfield 9, 3) := by decide +kernel
theorem dX5_hasLettersOf_9 : decode cX5_hasLettersOf 9 = .ok (.arraylength, 1) := by decide +kernel
theorem dX5_hasLettersOf_10 : decode cX5_hasLettersOf 10 = .ok (.if_icmp .ne 33, 3) := by decide +kernel
theorem dX5_hasLettersOf_13 : decode cX5_hasLettersOf 13 = .ok (.aload_n 0, 1) := by decide +kernel
theorem dX5_hasLettersOf_14 : decode cX5_hasLettersOf 14 = .ok (.getfield 9, 3) := by decide +kernel
theorem dX5_hasLettersOf_17 : decode cX5_hasLettersOf 17 = .ok (.iconst 0, 1) := by decide +kernel
theorem dX5_hasLettersOf_18 : decode cX5_hasLettersOf 18 = .ok (.aload_n 1, 1) := by decide +kernel
theorem dX5_hasLettersOf_19 : decode cX5_hasLettersOf 19 = .ok (.getfield 9, 3) := by decide +kernel
theorem dX5_hasLettersOf_22 : decode cX5_hasLettersOf 22 = .ok (.iconst 0, 1) := by decide +kernel
theorem dX5_hasLettersOf_23 : decode cX5_hasLettersOf 23 = .ok (.aload_n 0, 1) := by decide +kernel
theorem dX5_hasLettersOf_24 : decode cX5_hasLettersOf 24 = .ok (.getfield 9, 3) := by decide +kernel
theorem dX5_hasLettersOf_27 : decode cX5_hasLettersOf 27 = .ok (.arraylength, 1) := by decide +kernel
theorem dX5_hasLettersOf_28 : decode cX5_hasLettersOf 28 = .ok (.invokestatic 41, 3) := by decide +kernel
theorem dX5_hasLettersOf_31 : decode cX5_hasLettersOf 31 = .ok (.aload_n 0, 1) := by decide +kernel
theorem dX5_hasLettersOf_32 : decode cX5_hasLettersOf 32 = .ok (.getfield 9, 3) := by decide +kernel
theorem dX5_hasLettersOf_35 : decode cX5_hasLettersOf 35 = .ok (.arraylength, 1) := by decide +kernel
theorem dX5_hasLettersOf_36 : decode cX5_hasLettersOf 36 = .ok (.if_icmp .ne 7, 3) := by decide +kernel
theorem dX5_hasLettersOf_39 : decode cX5_hasLettersOf 39 = .ok (.iconst 1, 1) := by decide +kernel
theorem dX5_hasLettersOf_40 : decode cX5_hasLettersOf 40 = .ok (.goto 4, 3) := by decide +kernel
theorem dX5_hasLettersOf_43 : decode cX5_hasLettersOf 43 = .ok (.iconst 0, 1) := by decide +kernel
theorem dX5_hasLettersOf_44 : decode cX5_hasLettersOf 44 = .ok (.ireturn, 1) := by decide +kernel
theorem dX5_comesByNameBefore_0 : decode cX5_comesByNameBefore 0 = .ok (.iconst 0, 1) := by decide +kernel
theorem dX5_comesByNameBefore_1 : decode cX5_comesByNameBefore 1 = .ok (.istore_n 2, 1) := by decide +kernel
theorem dX5_comesByNameBefore_2 : decode cX5_comesByNameBefore 2 = .ok (.iload_n 2, 1) := by decide +kernel
theorem dX5_comesByNameBefore_3 : decode cX5_comesByNameBefore 3 = .ok (.aload_n 0, 1) := by decide +kernel
theorem dX5_comesByNameBefore_4 : decode cX5_comesByNameBefore 4 = .ok (.getfield 9, 3) := by decide +kernel
theorem dX5_comesByNameBefore_7 : decode cX5_comesByNameBefore 7 = .ok (.arraylength, 1) := by decide +kernel
theorem dX5_comesByNameBefore_8 : decode cX5_comesByNameBefore 8 = .ok (.if_icmp .ge 54, 3) := by decide +kernel
theorem dX5_comesByNameBefore_11 : decode cX5_comesByNameBefore 11 = .ok (.iload_n 2, 1) := by decide +kernel
theorem dX5_comesByNameBefore_12 : decode cX5_comesByNameBefore 12 = .ok (.aload_n 1, 1) := by decide +kernel
theorem dX5_comesByNameBefore_13 : decode cX5_comesByNameBefore 13 = .ok (.getfield 9, 3) := by decide +kernel
theorem dX5_comesByNameBefore_16 : decode cX5_comesByNameBefore 16 = .ok (.arraylength, 1) := by decide +kernel
theorem dX5_comesByNameBefore_17 : decode cX5_comesByNameBefore 17 = .ok (.if_icmp .ge 45, 3) := by decide +kernel
theorem dX5_comesByNameBefore_20 : decode cX5_comesByNameBefore 20 = .ok (.aload_n 0, 1) := by decide +kernel
theorem dX5_comesByNameBefore_21 : decode cX5_comesByNameBefore 21 = .ok (.getfield 9, 3) := by decide +kernel
theorem dX5_comesByNameBefore_24 : decode cX5_comesByNameBefore 24 = .ok (.iload_n 2, 1) := by decide +kernel
theorem dX5_comesByNameBefore_25 : decode cX5_comesByNameBefore 25 = .ok (.caload, 1) := by decide +kernel
theorem dX5_comesByNameBefore_26 : decode cX5_comesByNameBefore 26 = .ok (.aload_n 1, 1) := by decide +kernel
theorem dX5_comesByNameBefore_27 : decode cX5_comesByNameBefore 27 = .ok (.getfield 9, 3) := by decide +kernel
theorem dX5_comesByNameBefore_30 : decode cX5_comesByNameBefore 30 = .ok (.iload_n 2, 1) := by decide +kernel
theorem dX5_comesByNameBefore_31 : decode cX5_comesByNameBefore 31 = .ok (.caload, 1) := by decide +kernel
theorem dX5_comesByNameBefore_32 : decode cX5_comesByNameBefore 32 = .ok (.if_icmp .eq 24, 3) := by decide +kernel
theorem dX5_comesByNameBefore_35 : decode cX5_comesByNameBefore 35 = .ok (.aload_n 0, 1) := by decide +kernel
theorem dX5_comesByNameBefore_36 : decode cX5_comesByNameBefore 36 = .ok (.getfield 9, 3) := by decide +kernel
theorem dX5_comesByNameBefore_39 : decode cX5_comesByNameBefore 39 = .ok (.iload_n 2, 1) := by decide +kernel
theorem dX5_comesByNameBefore_40 : decode cX5_comesByNameBefore 40 = .ok (.caload, 1) := by decide +kernel
theorem dX5_comesByNameBefore_41 : decode cX5_comesByNameBefore 41 = .ok (.aload_n 1, 1) := by decide +kernel
theorem dX5_comesByNameBefore_42 : decode cX5_comesByNameBefore 42 = .ok (.getfield 9, 3) := by decide +kernel
theorem dX5_comesByNameBefore_45 : decode cX5_comesByNameBefore 45 = .ok (.iload_n 2, 1) := by decide +kernel
theorem dX5_comesByNameBefore_46 : decode cX5_comesByNameBefore 46 = .ok (.caload, 1) := by decide +kernel
theorem dX5_comesByNameBefore_47 : decode cX5_comesByNameBefore 47 = .ok (.if_icmp .ge 7, 3) := by decide +kernel
theorem dX5_comesByNameBefore_50 : decode cX5_comesByNameBefore 50 = .ok (.iconst 1, 1) := by decide +kernel
theorem dX5_comesByNameBefore_51 : decode cX5_comesByNameBefore 51 = .ok (.goto 4, 3) := by decide +kernel
theorem dX5_comesByNameBefore_54 : decode cX5_comesByNameBefore 54 = .ok (.iconst 0, 1) := by decide +kernel
theorem dX5_comesByNameBefore_55 : decode cX5_comesByNameBefore 55 = .ok (.ireturn, 1) := by decide +kernel
theorem dX5_comesByNameBefore_56 : decode cX5_comesByNameBefore 56 = .ok (.iinc 2 1, 3) := by decide +kernel
theorem dX5_comesByNameBefore_59 : decode cX5_comesByNameBefore 59 = .ok (.goto (-57), 3) := by decide +kernel
theorem dX5_comesByNameBefore_62 : decode cX5_comesByNameBefore 62 = .ok (.aload_n 0, 1) := by decide +kernel
theorem dX5_comesByNameBefore_63 : decode cX5_comesByNameBefore 63 = .ok (.getfield 9, 3) := by decide +kernel
theorem dX5_comesByNameBefore_66 : decode cX5_comesByNameBefore 66 = .ok (.arraylength, 1) := by decide +kernel
theorem dX5_comesByNameBefore_67 : decode cX5_comesByNameBefore 67 = .ok (.aload_n 1, 1) := by decide +kernel
theorem dX5_comesByNameBefore_68 : decode cX5_comesByNameBefore 68 = .ok (.getfield 9, 3) := by decide +kernel
theorem dX5_comesByNameBefore_71 : decode cX5_comesByNameBefore 71 = .ok (.arraylength, 1) := by decide +kernel
theorem dX5_comesByNameBefore_72 : decode cX5_comesByNameBefore 72 = .ok (.if_icmp .ge 7, 3) := by decide +kernel
theorem dX5_comesByNameBefore_75 : decode cX5_comesByNameBefore 75 = .ok (.iconst 1, 1) := by decide +kernel
theorem dX5_comesByNameBefore_76 : decode cX5_comesByNameBefore 76 = .ok (.goto 4, 3) := by decide +kernel
theorem dX5_comesByNameBefore_79 : decode cX5_comesByNameBefore 79 = .ok (.iconst 0, 1) := by decide +kernel
theorem dX5_comesByNameBefore_80 : decode cX5_comesByNameBefore 80 = .ok (.ireturn, 1) := by decide +kernel
theorem dX5_sameLength_0 : decode cX5_sameLength 0 = .ok (.iconst 0, 1) := by decide +kernel
theorem dX5_sameLength_1 : decode cX5_sameLength 1 = .ok (.istore 5, 2) := by decide +kernel
theorem dX5_sameLength_3 : decode cX5_sameLength 3 = .ok (.iload 5, 2) := by decide +kernel
theorem dX5_sameLength_5 : decode cX5_sameLength 5 = .ok (.iload 4, 2) := by decide +kernel
theorem dX5_sameLength_7 : decode cX5_sameLength 7 = .ok (.if_icmp .ge 42, 3) := by decide +kernel
theorem dX5_sameLength_10 : decode cX5_sameLength 10 = .ok (.iload_n 1, 1) := by decide +kernel
theorem dX5_sameLength_11 : decode cX5_sameLength 11 = .ok (.iload 5, 2) := by decide +kernel
theorem dX5_sameLength_13 : decode cX5_sameLength 13 = .ok (.iadd, 1) := by decide +kernel
theorem dX5_sameLength_14 : decode cX5_sameLength 14 = .ok (.aload_n 0, 1) := by decide +kernel
theorem dX5_sameLength_15 : decode cX5_sameLength 15 = .ok (.arraylength, 1) := by decide +kernel
theorem dX5_sameLength_16 : decode cX5_sameLength 16 = .ok (.if_icmp .ge 33, 3) := by decide +kernel
theorem dX5_sameLength_19 : decode cX5_sameLength 19 = .ok (.iload_n 3, 1) := by decide +kernel
theorem dX5_sameLength_20 : decode cX5_sameLength 20 = .ok (.iload 5, 2) := by decide +kernel
theorem dX5_sameLength_22 : decode cX5_sameLength 22 = .ok (.iadd, 1) := by decide +kernel
theorem dX5_sameLength_23 : decode cX5_sameLength 23 = .ok (.aload_n 2, 1) := by decide +kernel
theorem dX5_sameLength_24 : decode cX5_sameLength 24 = .ok (.arraylength, 1) := by decide +kernel
theorem dX5_sameLength_25 : decode cX5_sameLength 25 = .ok (.if_icmp .ge 24, 3) := by decide +kernel
theorem dX5_sameLength_28 : decode cX5_sameLength 28 = .ok (.aload_n 0, 1) := by decide +kernel
theorem dX5_sameLength_29 : decode cX5_sameLength 29 = .ok (.iload_n 1, 1) := by decide +kernel
theorem dX5_sameLength_30 : decode cX5_sameLength 30 = .ok (.iload 5, 2) := by decide +kernel
theorem dX5_sameLength_32 : decode cX5_sameLength 32 = .ok (.iadd, 1) := by decide +kernel
theorem dX5_sameLength_33 : decode cX5_sameLength 33 = .ok (.caload, 1) := by decide +kernel
theorem dX5_sameLength_34 : decode cX5_sameLength 34 = .ok (.aload_n 2, 1) := by decide +kernel
theorem dX5_sameLength_35 : decode cX5_sameLength 35 = .ok (.iload_n 3, 1) := by decide +kernel
theorem dX5_sameLength_36 : decode cX5_sameLength 36 = .ok (.iload 5, 2) := by decide +kernel
theorem dX5_sameLength_38 : decode cX5_sameLength 38 = .ok (.iadd, 1) := by decide +kernel
theorem dX5_sameLength_39 : decode cX5_sameLength 39 = .ok (.caload, 1) := by decide +kernel
theorem dX5_sameLength_40 : decode cX5_sameLength 40 = .ok (.if_icmp .ne 9, 3) := by decide +kernel
theorem dX5_sameLength_43 : decode cX5_sameLength 43 = .ok (.iinc 5 1, 3) := by decide +kernel
theorem dX5_sameLength_46 : decode cX5_sameLength 46 = .ok (.goto (-43), 3) := by decide +kernel
theorem dX5_sameLength_49 : decode cX5_sameLength 49 = .ok (.iload 5, 2) := by decide +kernel
theorem dX5_sameLength_51 : decode cX5_sameLength 51 = .ok (.ireturn, 1) := by decide +kernel
theorem dX6_init_0 : decode cX6_init 0 = .ok (.aload_n 0, 1) := by decide +kernel
theorem dX6_init_1 : decode cX6_init 1 = .ok (.invokespecial 1, 3) := by decide +kernel
theorem dX6_init_4 : decode cX6_init 4 = .ok (.aload_n 0, 1) := by decide +kernel
theorem dX6_init_5 : decode cX6_init 5 = .ok (.new 7, 3) := by decide +kernel
theorem dX6_init_8 : decode cX6_init 8 = .ok (.dup, 1) := by decide +kernel
theorem dX6_init_9 : decode cX6_init 9 = .ok (.invokespecial 9, 3) := by decide +kernel
theorem dX6_init_12 : decode cX6_init 12 = .ok (.putfield 10, 3) := by decide +kernel
theorem dX6_init_15 : decode cX6_init 15 = .ok (.aload_n 0, 1) := by decide +kernel
theorem dX6_init_16 : decode cX6_init 16 = .ok (.new 7, 3) := by decide +kernel
theorem dX6_init_19 : decode cX6_init 19 = .ok (.dup, 1) := by decide +kernel
theorem dX6_init_20 : decode cX6_init 20 = .ok (.invokespecial 9, 3) := by decide +kernel
theorem dX6_init_23 : decode cX6_init 23 = .ok (.putfield 16, 3) := by decide +kernel
theorem dX6_init_26 : decode cX6_init 26 = .ok (.aload_n 0, 1) := by decide +kernel
theorem dX6_init_27 : decode cX6_init 27 = .ok (.new 19, 3) := by decide +kernel
theorem dX6_init_30 : decode cX6_init 30 = .ok (.dup, 1) := by decide +kernel
theorem dX6_init_31 : decode cX6_init 31 = .ok (.invokespecial 21, 3) := by decide +kernel
theorem dX6_init_34 : decode cX6_init 34 = .ok (.putfield 22, 3) := by decide +kernel
theorem dX6_init_37 : decode cX6_init 37 = .ok (.aload_n 0, 1) := by decide +kernel
theorem dX6_init_38 : decode cX6_init 38 = .ok (.new 26, 3) := by decide +kernel
theorem dX6_init_41 : decode cX6_init 41 = .ok (.dup, 1) := by decide +kernel
theorem dX6_init_42 : decode cX6_init 42 = .ok (.invokespecial 28, 3) := by decide +kernel
theorem dX6_init_45 : decode cX6_init 45 = .ok (.putfield 29, 3) := by decide +kernel
theorem dX6_init_48 : decode cX6_init 48 = .ok (.aload_n 0, 1) := by decide +kernel
theorem dX6_init_49 : decode cX6_init 49 = .ok (.new 33, 3) := by decide +kernel
theorem dX6_init_52 : decode cX6_init 52 = .ok (.dup, 1) := by decide +kernel
theorem dX6_init_53 : decode cX6_init 53 = .ok (.invokespecial 35, 3) := by decide +kernel
theorem dX6_init_56 : decode cX6_init 56 = .ok (.putfield 36, 3) := by decide +kernel
theorem dX6_init_59 : decode cX6_init 59 = .ok (.aload_n 0, 1) := by decide +kernel
theorem dX6_init_60 : decode cX6_init 60 = .ok (.new 40, 3) := by decide +kernel
theorem dX6_init_63 : decode cX6_init 63 = .ok (.dup, 1) := by decide +kernel
theorem dX6_init_64 : decode cX6_init 64 = .ok (.invokespecial 42, 3) := by decide +kernel
theorem dX6_init_67 : decode cX6_init 67 = .ok (.putfield 43, 3) := by decide +kernel
theorem dX6_init_70 : decode cX6_init 70 = .ok (.return_, 1) := by decide +kernel
theorem dX6_type_0 : decode cX6_type 0 = .ok (.iload_n 1, 1) := by decide +kernel
theorem dX6_type_1 : decode cX6_type 1 = .ok (.bipush 32, 2) := by decide +kernel
theorem dX6_type_3 : decode cX6_type 3 = .ok (.if_icmp .lt 9, 3) := by decide +kernel
theorem dX6_type_6 : decode cX6_type 6 = .ok (.iload_n 1, 1) := by decide +kernel
theorem dX6_type_7 : decode cX6_type 7 = .ok (.bipush 126, 2) := by decide +kernel
theorem dX6_type_9 : decode cX6_type 9 = .ok (.if_icmp .le 6, 3) := by decide +kernel
theorem dX6_type_12 : decode cX6_type 12 = .ok (.bipush (-2), 2) := by decide +kernel
theorem dX6_type_14 : decode cX6_type 14 = .ok (.ireturn, 1) := by decide +kernel
theorem dX6_type_15 : decode cX6_type 15 = .ok (.aload_n 0, 1) := by decide +kernel
theorem dX6_type_16 : decode cX6_type 16 = .ok (.getfield 29, 3) := by decide +kernel
theorem dX6_type_19 : decode cX6_type 19 = .ok (.iload_n 1, 1) := by decide +kernel
theorem dX6_type_20 : decode cX6_type 20 = .ok (.i2c, 1) := by decide +kernel
theorem dX6_type_21 : decode cX6_type 21 = .ok (.invokevirtual 47, 3) := by decide +kernel
theorem dX6_type_24 : decode cX6_type 24 = .ok (.ifCond .ne 6, 3) := by decide +kernel
theorem dX6_type_27 : decode cX6_type 27 = .ok (.bipush (-4), 2) := by decide +kernel
theorem dX6_type_29 : decode cX6_type 29 = .ok (.ireturn, 1) := by decide +kernel
theorem dX6_type_30 : decode cX6_type 30 = .ok (.aload_n 0, 1) := by decide +kernel
theorem dX6_type_31 : decode cX6_type 31 = .ok (.getfield 29, 3) := by decide +kernel
theorem dX6_type_34 : decode cX6_type 34 = .ok (.getfield 51, 3) := by decide +kernel
theorem dX6_type_37 : decode cX6_type 37 = .ok (.ireturn, 1) := by decide +kernel
theorem dX6_clearText_0 : decode cX6_clearText 0 = .ok (.aload_n 0, 1) := by decide +kernel
theorem dX6_clearText_1 : decode cX6_clearText 1 = .ok (.getfield 29, 3) := by decide +kernel
theorem dX6_clearText_4 : decode cX6_clearText 4 = .ok (.getfield 51, 3) := by decide +kernel
theorem dX6_clearText_7 : decode cX6_clearText 7 = .ok (.istore_n 1, 1) := by decide +kernel
theorem dX6_clearText_8 : decode cX6_clearText 8 = .ok (.aload_n 0, 1) := by decide +kernel
theorem dX6_clearText_9 : decode cX6_clearText 9 = .ok (.getfield 29, 3) := by decide +kernel
theorem dX6_clearText_12 : decode cX6_clearText 12 = .ok (.invokevirtual 55, 3) := by decide +kernel
theorem dX6_clearText_15 : decode cX6_clearText 15 = .ok (.iload_n 1, 1) := by decide +kernel
theorem dX6_clearText_16 : decode cX6_clearText 16 = .ok (.ireturn, 1) := by decide +kernel
theorem dX6_add_0 : decode cX6_add 0 = .ok (.aload_n 0, 1) := by decide +kernel
theorem dX6_add_1 : decode cX6_add 1 = .ok (.getfield 29, 3) := by decide +kernel
theorem dX6_add_4 : decode cX6_add 4 = .ok (.invokevirtual 113, 3) := by decide +kernel
theorem dX6_add_7 : decode cX6_add 7 = .ok (.ifCond .ne 6, 3) := by decide +kernel
theorem dX6_add_10 : decode cX6_add 10 = .ok (.bipush (-5), 2) := by decide +kernel
theorem dX6_add_12 : decode cX6_add 12 = .ok (.ireturn, 1) := by decide +kernel
theorem dX6_add_13 : decode cX6_add 13 = .ok (.aload_n 0, 1) := by decide +kernel
theorem dX6_add_14 : decode cX6_add 14 = .ok (.getfield 29, 3) := by decide +kernel
theorem dX6_add_17 : decode cX6_add 17 = .ok (.invokevirtual 82, 3) := by decide +kernel
theorem dX6_add_20 : decode cX6_add 20 = .ok (.astore_n 1, 1) := by decide +kernel
theorem dX6_add_21 : decode cX6_add 21 = .ok (.aload_n 0, 1) := by decide +kernel
theorem dX6_add_22 : decode cX6_add 22 = .ok (.getfield 10, 3) := by decide +kernel
theorem dX6_add_25 : decode cX6_add 25 = .ok (.aload_n 1, 1) := by decide +kernel
theorem dX6_add_26 : decode cX6_add 26 = .ok (.invokevirtual 116, 3) := by decide +kernel
theorem dX6_add_29 : decode cX6_add 29 = .ok (.istore_n 2, 1) := by decide +kernel
theorem dX6_add_30 : decode cX6_add 30 = .ok (.iload_n 2, 1) := by decide +kernel
theorem dX6_add_31 : decode cX6_add 31 = .ok (.ifCond .ge 5, 3) := by decide +kernel
theorem dX6_add_34 : decode cX6_add 34 = .ok (.iload_n 2, 1) := by decide +kernel
theorem dX6_add_35 : decode cX6_add 35 = .ok (.ireturn, 1) := by decide +kernel
theorem dX6_add_36 : decode cX6_add 36 = .ok (.aload_n 0, 1) := by decide +kernel
theorem dX6_add_37 : decode cX6_add 37 = .ok (.getfield 22, 3) := by decide +kernel
theorem dX6_add_40 : decode cX6_add 40 = .ok (.aload_n 0, 1) := by decide +kernel
theorem dX6_add_41 : decode cX6_add 41 = .ok (.getfield 10, 3) := by decide +kernel
theorem dX6_add_44 : decode cX6_add 44 = .ok (.invokevirtual 62, 3) := by decide +kernel
theorem dX6_add_47 : decode cX6_add 47 = .ok (.aload_n 0, 1) := by decide +kernel
theorem dX6_add_48 : decode cX6_add 48 = .ok (.getfield 29, 3) := by decide +kernel
theorem dX6_add_51 : decode cX6_add 51 = .ok (.invokevirtual 55, 3) := by decide +kernel
theorem dX6_add_54 : decode cX6_add 54 = .ok (.aload_n 0, 1) := by decide +kernel
theorem dX6_add_55 : decode cX6_add 55 = .ok (.aload_n 1, 1) := by decide +kernel
theorem dX6_add_56 : decode cX6_add 56 = .ok (.invokevirtual 86, 3) := by decide +kernel
theorem dX6_add_59 : decode cX6_add 59 = .ok (.ireturn, 1) := by decide +kernel
theorem dX6_addIfPossible_0 : decode cX6_addIfPossible 0 = .ok (.aload_n 0, 1) := by decide +kernel
theorem dX6_addIfPossible_1 : decode cX6_addIfPossible 1 = .ok (.getfield 10, 3) := by decide +kernel
theorem dX6_addIfPossible_4 : decode cX6_addIfPossible 4 = .ok (.aload_n 1, 1) := by decide +kernel
theorem dX6_addIfPossible_5 : decode cX6_addIfPossible 5 = .ok (.invokevirtual 116, 3) := by decide +kernel
theorem dX6_addIfPossible_8 : decode cX6_addIfPossible 8 = .ok (.istore_n 2, 1) := by decide +kernel
theorem dX6_addIfPossible_9 : decode cX6_addIfPossible 9 = .ok (.iload_n 2, 1) := by decide +kernel
theorem dX6_addIfPossible_10 : decode cX6_addIfPossible 10 = .ok (.ifCond .ge 5, 3) := by decide +kernel
theorem dX6_addIfPossible_13 : decode cX6_addIfPossible 13 = .ok (.iload_n 2, 1) := by decide +kernel
theorem dX6_addIfPossible_14 : decode cX6_addIfPossible 14 = .ok (.ireturn, 1) := by decide +kernel
theorem dX6_addIfPossible_15 : decode cX6_addIfPossible 15 = .ok (.aload_n 0, 1) := by decide +kernel
theorem dX6_addIfPossible_16 : decode cX6_addIfPossible 16 = .ok (.getfield 10, 3) := by decide +kernel
theorem dX6_addIfPossible_19 : decode cX6_addIfPossible 19 = .ok (.getfield 119, 3) := by decide +kernel
theorem dX6_addIfPossible_22 : decode cX6_addIfPossible 22 = .ok (.aload_n 1, 1) := by decide +kernel
theorem dX6_addIfPossible_23 : decode cX6_addIfPossible 23 = .ok (.invokevirtual 123, 3) := by decide +kernel
theorem dX6_addIfPossible_26 : decode cX6_addIfPossible 26 = .ok (.pop, 1) := by decide +kernel
theorem dX6_addIfPossible_27 : decode cX6_addIfPossible 27 = .ok (.aload_n 0, 1) := by decide +kernel
theorem dX6_addIfPossible_28 : decode cX6_addIfPossible 28 = .ok (.getfield 10, 3) := by decide +kernel
theorem dX6_addIfPossible_31 : decode cX6_addIfPossible 31 = .ok (.getfield 119, 3) := by decide +kernel
theorem dX6_addIfPossible_34 : decode cX6_addIfPossible 34 = .ok (.invokevirtual 129, 3) := by decide +kernel
theorem dX6_addIfPossible_37 : decode cX6_addIfPossible 37 = .ok (.iconst 1, 1) := by decide +kernel
theorem dX6_addIfPossible_38 : decode cX6_addIfPossible 38 = .ok (.isub, 1) := by decide +kernel
theorem dX6_addIfPossible_39 : decode cX6_addIfPossible 39 = .ok (.ireturn, 1) := by decide +kernel
theorem dX6_drop_0 : decode cX6_drop 0 = .ok (.aload_n 0, 1) := by decide +kernel
theorem dX6_drop_1 : decode cX6_drop 1 = .ok (.getfield 10, 3) := by decide +kernel
theorem dX6_drop_4 : decode cX6_drop 4 = .ok (.iload_n 1, 1) := by decide +kernel
theorem dX6_drop_5 : decode cX6_drop 5 = .ok (.invokevirtual 132, 3) := by decide +kernel
theorem dX6_drop_8 : decode cX6_drop 8 = .ok (.ifCond .ne 5, 3) := by decide +kernel
theorem dX6_drop_11 : decode cX6_drop 11 = .ok (.iconst (-1), 1) := by decide +kernel
theorem dX6_drop_12 : decode cX6_drop 12 = .ok (.ireturn, 1) := by decide +kernel
theorem dX6_drop_13 : decode cX6_drop 13 = .ok (.aload_n 0, 1) := by decide +kernel
theorem dX6_drop_14 : decode cX6_drop 14 = .ok (.getfield 22, 3) := by decide +kernel
theorem dX6_drop_17 : decode cX6_drop 17 = .ok (.aload_n 0, 1) := by decide +kernel
theorem dX6_drop_18 : decode cX6_drop 18 = .ok (.getfield 10, 3) := by decide +kernel
theorem dX6_drop_21 : decode cX6_drop 21 = .ok (.invokevirtual 62, 3) := by decide +kernel
theorem dX6_drop_24 : decode cX6_drop 24 = .ok (.aload_n 0, 1) := by decide +kernel
theorem dX6_drop_25 : decode cX6_drop 25 = .ok (.iload_n 1, 1) := by decide +kernel
theorem dX6_drop_26 : decode cX6_drop 26 = .ok (.invokevirtual 93, 3) := by decide +kernel
theorem dX6_drop_29 : decode cX6_drop 29 = .ok (.pop, 1) := by decide +kernel
theorem dX6_drop_30 : decode cX6_drop 30 = .ok (.aload_n 0, 1) := by decide +kernel
theorem dX6_drop_31 : decode cX6_drop 31 = .ok (.getfield 10, 3) := by decide +kernel
theorem dX6_drop_34 : decode cX6_drop 34 = .ok (.getfield 119, 3) := by decide +kernel
theorem dX6_drop_37 : decode cX6_drop 37 = .ok (.invokevirtual 129, 3) := by decide +kernel
theorem dX6_drop_40 : decode cX6_drop 40 = .ok (.ireturn, 1) := by decide +kernel
theorem dX6_dropIfThere_0 : decode cX6_dropIfThere 0 = .ok (.aload_n 0, 1) := by decide +kernel
theorem dX6_dropIfThere_1 : decode cX6_dropIfThere 1 = .ok (.getfield 10, 3) := by decide +kernel
theorem dX6_dropIfThere_4 : decode cX6_dropIfThere 4 = .ok (.iload_n 1, 1) := by decide +kernel
theorem dX6_dropIfThere_5 : decode cX6_dropIfThere 5 = .ok (.invokevirtual 132, 3) := by decide +kernel
theorem dX6_dropIfThere_8 : decode cX6_dropIfThere 8 = .ok (.ifCond .ne 5, 3) := by decide +kernel
theorem dX6_dropIfThere_11 : decode cX6_dropIfThere 11 = .ok (.iconst 0, 1) := by decide +kernel
theorem dX6_dropIfThere_12 : decode cX6_dropIfThere 12 = .ok (.ireturn, 1) := by decide +kernel
theorem dX6_dropIfThere_13 : decode cX6_dropIfThere 13 = .ok (.aload_n 0, 1) := by decide +kernel
theorem dX6_dropIfThere_14 : decode cX6_dropIfThere 14 = .ok (.getfield 10, 3) := by decide +kernel
theorem dX6_dropIfThere_17 : decode cX6_dropIfThere 17 = .ok (.getfield 119, 3) := by decide +kernel
theorem dX6_dropIfThere_20 : decode cX6_dropIfThere 20 = .ok (.iload_n 1, 1) := by decide +kernel
theorem dX6_dropIfThere_21 : decode cX6_dropIfThere 21 = .ok (.invokevirtual 135, 3) := by decide +kernel
theorem dX6_dropIfThere_24 : decode cX6_dropIfThere 24 = .ok (.pop, 1) := by decide +kernel
theorem dX6_dropIfThere_25 : decode cX6_dropIfThere 25 = .ok (.iconst 1, 1) := by decide +kernel
theorem dX6_dropIfThere_26 : decode cX6_dropIfThere 26 = .ok (.ireturn, 1) := by decide +kernel
theorem dX6_titles_0 : decode cX6_titles 0 = .ok (.aload_n 0, 1) := by decide +kernel
theorem dX6_titles_1 : decode cX6_titles 1 = .ok (.getfield 10, 3) := by decide +kernel
theorem dX6_titles_4 : decode cX6_titles 4 = .ok (.getfield 119, 3) := by decide +kernel
theorem dX6_titles_7 : decode cX6_titles 7 = .ok (.invokevirtual 129, 3) := by decide +kernel
theorem dX6_titles_10 : decode cX6_titles 10 = .ok (.ireturn, 1) := by decide +kernel
theorem dX6_character_0 : decode cX6_character 0 = .ok (.aload_n 0, 1) := by decide +kernel
theorem dX6_character_1 : decode cX6_character 1 = .ok (.getfield 10, 3) := by decide +kernel
theorem dX6_character_4 : decode cX6_character 4 = .ok (.iload_n 1, 1) := by decide +kernel
theorem dX6_character_5 : decode cX6_character 5 = .ok (.invokevirtual 132, 3) := by decide +kernel
theorem dX6_character_8 : decode cX6_character 8 = .ok (.ifCond .ne 5, 3) := by decide +kernel
theorem dX6_character_11 : decode cX6_character 11 = .ok (.iconst (-1), 1) := by decide +kernel
theorem dX6_character_12 : decode cX6_character 12 = .ok (.ireturn, 1) := by decide +kernel
theorem dX6_character_13 : decode cX6_character 13 = .ok (.aload_n 0, 1) := by decide +kernel
theorem dX6_character_14 : decode cX6_character 14 = .ok (.getfield 10, 3) := by decide +kernel
theorem dX6_character_17 : decode cX6_character 17 = .ok (.getfield 119, 3) := by decide +kernel
theorem dX6_character_20 : decode cX6_character 20 = .ok (.iload_n 1, 1) := by decide +kernel
theorem dX6_character_21 : decode cX6_character 21 = .ok (.invokevirtual 139, 3) := by decide +kernel
theorem dX6_character_24 : decode cX6_character 24 = .ok (.checkcast 142, 3) := by decide +kernel
theorem dX6_character_27 : decode cX6_character 27 = .ok (.getfield 144, 3) := by decide +kernel
theorem dX6_character_30 : decode cX6_character 30 = .ok (.astore_n 3, 1) := by decide +kernel
theorem dX6_character_31 : decode cX6_character 31 = .ok (.iload_n 2, 1) := by decide +kernel
theorem dX6_character_32 : decode cX6_character 32 = .ok (.ifCond .lt 9, 3) := by decide +kernel
theorem dX6_character_35 : decode cX6_character 35 = .ok (.iload_n 2, 1) := by decide +kernel
theorem dX6_character_36 : decode cX6_character 36 = .ok (.aload_n 3, 1) := by decide +kernel
theorem dX6_character_37 : decode cX6_character 37 = .ok (.arraylength, 1) := by decide +kernel
theorem dX6_character_38 : decode cX6_character 38 = .ok (.if_icmp .lt 5, 3) := by decide +kernel
theorem dX6_character_41 : decode cX6_character 41 = .ok (.iconst (-1), 1) := by decide +kernel
theorem dX6_character_42 : decode cX6_character 42 = .ok (.ireturn, 1) := by decide +kernel
theorem dX6_character_43 : decode cX6_character 43 = .ok (.aload_n 3, 1) := by decide +kernel
theorem dX6_character_44 : decode cX6_character 44 = .ok (.iload_n 2, 1) := by decide +kernel
theorem dX6_character_45 : decode cX6_character 45 = .ok (.caload, 1) := by decide +kernel
theorem dX6_character_46 : decode cX6_character 46 = .ok (.ireturn, 1) := by decide +kernel
theorem dX6_of_0 : decode cX6_of 0 = .ok (.aload_n 0, 1) := by decide +kernel
theorem dX6_of_1 : decode cX6_of 1 = .ok (.getfield 10, 3) := by decide +kernel
theorem dX6_of_4 : decode cX6_of 4 = .ok (.iload_n 1, 1) := by decide +kernel
theorem dX6_of_5 : decode cX6_of 5 = .ok (.invokevirtual 132, 3) := by decide +kernel
theorem dX6_of_8 : decode cX6_of 8 = .ok (.ifCond .ne 5, 3) := by decide +kernel
theorem dX6_of_11 : decode cX6_of 11 = .ok (.iconst (-1), 1) := by decide +kernel
theorem dX6_of_12 : decode cX6_of 12 = .ok (.ireturn, 1) := by decide +kernel
theorem dX6_of_13 : decode cX6_of 13 = .ok (.iload_n 2, 1) := by decide +kernel
theorem dX6_of_14 : decode cX6_of 14 = .ok (.ifCond .lt 9, 3) := by decide +kernel
theorem dX6_of_17 : decode cX6_of 17 = .ok (.iload_n 2, 1) := by decide +kernel
theorem dX6_of_18 : decode cX6_of 18 = .ok (.bipush 6, 2) := by decide +kernel
theorem dX6_of_20 : decode cX6_of 20 = .ok (.if_icmp .le 6, 3) := by decide +kernel
theorem dX6_of_23 : decode cX6_of 23 = .ok (.bipush (-2), 2) := by decide +kernel
theorem dX6_of_25 : decode cX6_of 25 = .ok (.ireturn, 1) := by decide +kernel
theorem dX6_of_26 : decode cX6_of 26 = .ok (.aload_n 0, 1) := by decide +kernel
theorem dX6_of_27 : decode cX6_of 27 = .ok (.getfield 43, 3) := by decide +kernel
theorem dX6_of_30 : decode cX6_of 30 = .ok (.aload_n 0, 1) := by decide +kernel
theorem dX6_of_31 : decode cX6_of 31 = .ok (.getfield 10, 3) := by decide +kernel
theorem dX6_of_34 : decode cX6_of 34 = .ok (.iload_n 1, 1) := by decide +kernel
theorem dX6_of_35 : decode cX6_of 35 = .ok (.invokevirtual 148, 3) := by decide +kernel
theorem dX6_of_38 : decode cX6_of 38 = .ok (.aload_n 0, 1) := by decide +kernel
theorem dX6_of_39 : decode cX6_of 39 = .ok (.aload_n 0, 1) := by decide +kernel
theorem dX6_of_40 : decode cX6_of 40 = .ok (.getfield 10, 3) := by decide +kernel
theorem dX6_of_43 : decode cX6_of 43 = .ok (.getfield 119, 3) := by decide +kernel
theorem dX6_of_46 : decode cX6_of 46 = .ok (.iload_n 1, 1) := by decide +kernel
theorem dX6_of_47 : decode cX6_of 47 = .ok (.invokevirtual 139, 3) := by decide +kernel
theorem dX6_of_50 : decode cX6_of 50 = .ok (.checkcast 142, 3) := by decide +kernel
theorem dX6_of_53 : decode cX6_of 53 = .ok (.iload_n 2, 1) := by decide +kernel
theorem dX6_of_54 : decode cX6_of 54 = .ok (.invokevirtual 152, 3) := by decide +kernel
theorem dX6_of_57 : decode cX6_of 57 = .ok (.ireturn, 1) := by decide +kernel
theorem dX6_studiedNumber_0 : decode cX6_studiedNumber 0 = .ok (.iload_n 2, 1) := by decide +kernel
theorem dX6_studiedNumber_1 : decode cX6_studiedNumber 1 = .ok (.tableswitch 152 0 6 #[43, 49, 55, 60, 83, 106, 129], 43) := by decide +kernel
theorem dX6_studiedNumber_44 : decode cX6_studiedNumber 44 = .ok (.aload_n 1, 1) := by decide +kernel
theorem dX6_studiedNumber_45 : decode cX6_studiedNumber 45 = .ok (.getfield 144, 3) := by decide +kernel
theorem dX6_studiedNumber_48 : decode cX6_studiedNumber 48 = .ok (.arraylength, 1) := by decide +kernel
theorem dX6_studiedNumber_49 : decode cX6_studiedNumber 49 = .ok (.ireturn, 1) := by decide +kernel
theorem dX6_studiedNumber_50 : decode cX6_studiedNumber 50 = .ok (.aload_n 1, 1) := by decide +kernel
theorem dX6_studiedNumber_51 : decode cX6_studiedNumber 51 = .ok (.getfield 156, 3) := by decide +kernel
theorem dX6_studiedNumber_54 : decode cX6_studiedNumber 54 = .ok (.arraylength, 1) := by decide +kernel
theorem dX6_studiedNumber_55 : decode cX6_studiedNumber 55 = .ok (.ireturn, 1) := by decide +kernel
theorem dX6_studiedNumber_56 : decode cX6_studiedNumber 56 = .ok (.aload_n 1, 1) := by decide +kernel
theorem dX6_studiedNumber_57 : decode cX6_studiedNumber 57 = .ok (.getfield 159, 3) := by decide +kernel
theorem dX6_studiedNumber_60 : decode cX6_studiedNumber 60 = .ok (.ireturn, 1) := by decide +kernel
theorem dX6_studiedNumber_61 : decode cX6_studiedNumber 61 = .ok (.aload_n 0, 1) := by decide +kernel
theorem dX6_studiedNumber_62 : decode cX6_studiedNumber 62 = .ok (.getfield 43, 3) := by decide +kernel
theorem dX6_studiedNumber_65 : decode cX6_studiedNumber 65 = .ok (.invokevirtual 162, 3) := by decide +kernel
theorem dX6_studiedNumber_68 : decode cX6_studiedNumber 68 = .ok (.ifCond .eq 13, 3) := by decide +kernel
theorem dX6_studiedNumber_71 : decode cX6_studiedNumber 71 = .ok (.aload_n 0, 1) := by decide +kernel
theorem dX6_studiedNumber_72 : decode cX6_studiedNumber 72 = .ok (.getfield 43, 3) := by decide +kernel
theorem dX6_studiedNumber_75 : decode cX6_studiedNumber 75 = .ok (.getfield 165, 3) := by decide +kernel
theorem dX6_studiedNumber_78 : decode cX6_studiedNumber 78 = .ok (.goto 5, 3) := by decide +kernel
theorem dX6_studiedNumber_81 : decode cX6_studiedNumber 81 = .ok (.bipush (-6), 2) := by decide +kernel
theorem dX6_studiedNumber_83 : decode cX6_studiedNumber 83 = .ok (.ireturn, 1) := by decide +kernel
theorem dX6_studiedNumber_84 : decode cX6_studiedNumber 84 = .ok (.aload_n 0, 1) := by decide +kernel
theorem dX6_studiedNumber_85 : decode cX6_studiedNumber 85 = .ok (.getfield 43, 3) := by decide +kernel
theorem dX6_studiedNumber_88 : decode cX6_studiedNumber 88 = .ok (.invokevirtual 162, 3) := by decide +kernel
theorem dX6_studiedNumber_91 : decode cX6_studiedNumber 91 = .ok (.ifCond .eq 13, 3) := by decide +kernel
theorem dX6_studiedNumber_94 : decode cX6_studiedNumber 94 = .ok (.aload_n 0, 1) := by decide +kernel
theorem dX6_studiedNumber_95 : decode cX6_studiedNumber 95 = .ok (.getfield 43, 3) := by decide +kernel
theorem dX6_studiedNumber_98 : decode cX6_studiedNumber 98 = .ok (.getfield 168, 3) := by decide +kernel
theorem dX6_studiedNumber_101 : decode cX6_studiedNumber 101 = .ok (.goto 5, 3) := by decide +kernel
theorem dX6_studiedNumber_104 : decode cX6_studiedNumber 104 = .ok (.bipush (-6), 2) := by decide +kernel
theorem dX6_studiedNumber_106 : decode cX6_studiedNumber 106 = .ok (.ireturn, 1) := by decide +kernel
theorem dX6_studiedNumber_107 : decode cX6_studiedNumber 107 = .ok (.aload_n 0, 1) := by decide +kernel
theorem dX6_studiedNumber_108 : decode cX6_studiedNumber 108 = .ok (.getfield 43, 3) := by decide +kernel
theorem dX6_studiedNumber_111 : decode cX6_studiedNumber 111 = .ok (.invokevirtual 171, 3) := by decide +kernel
theorem dX6_studiedNumber_114 : decode cX6_studiedNumber 114 = .ok (.ifCond .eq 13, 3) := by decide +kernel
theorem dX6_studiedNumber_117 : decode cX6_studiedNumber 117 = .ok (.aload_n 0, 1) := by decide +kernel
theorem dX6_studiedNumber_118 : decode cX6_studiedNumber 118 = .ok (.getfield 43, 3) := by decide +kernel
theorem dX6_studiedNumber_121 : decode cX6_studiedNumber 121 = .ok (.getfield 174, 3) := by decide +kernel
theorem dX6_studiedNumber_124 : decode cX6_studiedNumber 124 = .ok (.goto 5, 3) := by decide +kernel
theorem dX6_studiedNumber_127 : decode cX6_studiedNumber 127 = .ok (.bipush (-6), 2) := by decide +kernel
theorem dX6_studiedNumber_129 : decode cX6_studiedNumber 129 = .ok (.ireturn, 1) := by decide +kernel
theorem dX6_studiedNumber_130 : decode cX6_studiedNumber 130 = .ok (.aload_n 0, 1) := by decide +kernel
theorem dX6_studiedNumber_131 : decode cX6_studiedNumber 131 = .ok (.getfield 43, 3) := by decide +kernel
theorem dX6_studiedNumber_134 : decode cX6_studiedNumber 134 = .ok (.invokevirtual 171, 3) := by decide +kernel
theorem dX6_studiedNumber_137 : decode cX6_studiedNumber 137 = .ok (.ifCond .eq 13, 3) := by decide +kernel
theorem dX6_studiedNumber_140 : decode cX6_studiedNumber 140 = .ok (.aload_n 0, 1) := by decide +kernel
theorem dX6_studiedNumber_141 : decode cX6_studiedNumber 141 = .ok (.getfield 43, 3) := by decide +kernel
theorem dX6_studiedNumber_144 : decode cX6_studiedNumber 144 = .ok (.getfield 177, 3) := by decide +kernel
theorem dX6_studiedNumber_147 : decode cX6_studiedNumber 147 = .ok (.goto 5, 3) := by decide +kernel
theorem dX6_studiedNumber_150 : decode cX6_studiedNumber 150 = .ok (.bipush (-6), 2) := by decide +kernel
theorem dX6_studiedNumber_152 : decode cX6_studiedNumber 152 = .ok (.ireturn, 1) := by decide +kernel
theorem dX6_studiedNumber_153 : decode cX6_studiedNumber 153 = .ok (.bipush (-2), 2) := by decide +kernel
theorem dX6_studiedNumber_155 : decode cX6_studiedNumber 155 = .ok (.ireturn, 1) := by decide +kernel
theorem dX6_common_0 : decode cX6_common 0 = .ok (.aload_n 0, 1) := by decide +kernel
theorem dX6_common_1 : decode cX6_common 1 = .ok (.getfield 10, 3) := by decide +kernel
theorem dX6_common_4 : decode cX6_common 4 = .ok (.iload_n 1, 1) := by decide +kernel
theorem dX6_common_5 : decode cX6_common 5 = .ok (.invokevirtual 132, 3) := by decide +kernel
theorem dX6_common_8 : decode cX6_common 8 = .ok (.ifCond .eq 14, 3) := by decide +kernel
theorem dX6_common_11 : decode cX6_common 11 = .ok (.aload_n 0, 1) := by decide +kernel
theorem dX6_common_12 : decode cX6_common 12 = .ok (.getfield 10, 3) := by decide +kernel
theorem dX6_common_15 : decode cX6_common 15 = .ok (.iload_n 2, 1) := by decide +kernel
theorem dX6_common_16 : decode cX6_common 16 = .ok (.invokevirtual 132, 3) := by decide +kernel
theorem dX6_common_19 : decode cX6_common 19 = .ok (.ifCond .ne 5, 3) := by decide +kernel
theorem dX6_common_22 : decode cX6_common 22 = .ok (.iconst (-1), 1) := by decide +kernel
theorem dX6_common_23 : decode cX6_common 23 = .ok (.ireturn, 1) := by decide +kernel
theorem dX6_common_24 : decode cX6_common 24 = .ok (.aload_n 0, 1) := by decide +kernel
theorem dX6_common_25 : decode cX6_common 25 = .ok (.getfield 10, 3) := by decide +kernel
theorem dX6_common_28 : decode cX6_common 28 = .ok (.getfield 119, 3) := by decide +kernel
theorem dX6_common_31 : decode cX6_common 31 = .ok (.iload_n 1, 1) := by decide +kernel
theorem dX6_common_32 : decode cX6_common 32 = .ok (.invokevirtual 139, 3) := by decide +kernel
theorem dX6_common_35 : decode cX6_common 35 = .ok (.checkcast 142, 3) := by decide +kernel
theorem dX6_common_38 : decode cX6_common 38 = .ok (.aload_n 0, 1) := by decide +kernel
theorem dX6_common_39 : decode cX6_common 39 = .ok (.getfield 10, 3) := by decide +kernel
theorem dX6_common_42 : decode cX6_common 42 = .ok (.getfield 119, 3) := by decide +kernel
theorem dX6_common_45 : decode cX6_common 45 = .ok (.iload_n 2, 1) := by decide +kernel
theorem dX6_common_46 : decode cX6_common 46 = .ok (.invokevirtual 139, 3) := by decide +kernel
theorem dX6_common_49 : decode cX6_common 49 = .ok (.checkcast 142, 3) := by decide +kernel
theorem dX6_common_52 : decode cX6_common 52 = .ok (.invokevirtual 180, 3) := by decide +kernel
theorem dX6_common_55 : decode cX6_common 55 = .ok (.ireturn, 1) := by decide +kernel
theorem dX6_closest_0 : decode cX6_closest 0 = .ok (.aload_n 0, 1) := by decide +kernel
theorem dX6_closest_1 : decode cX6_closest 1 = .ok (.getfield 10, 3) := by decide +kernel
theorem dX6_closest_4 : decode cX6_closest 4 = .ok (.iload_n 1, 1) := by decide +kernel
theorem dX6_closest_5 : decode cX6_closest 5 = .ok (.invokevirtual 132, 3) := by decide +kernel
theorem dX6_closest_8 : decode cX6_closest 8 = .ok (.ifCond .ne 5, 3) := by decide +kernel
theorem dX6_closest_11 : decode cX6_closest 11 = .ok (.iconst (-1), 1) := by decide +kernel
theorem dX6_closest_12 : decode cX6_closest 12 = .ok (.ireturn, 1) := by decide +kernel
theorem dX6_closest_13 : decode cX6_closest 13 = .ok (.aload_n 0, 1) := by decide +kernel
theorem dX6_closest_14 : decode cX6_closest 14 = .ok (.getfield 10, 3) := by decide +kernel
theorem dX6_closest_17 : decode cX6_closest 17 = .ok (.getfield 119, 3) := by decide +kernel
theorem dX6_closest_20 : decode cX6_closest 20 = .ok (.iload_n 1, 1) := by decide +kernel
theorem dX6_closest_21 : decode cX6_closest 21 = .ok (.invokevirtual 139, 3) := by decide +kernel
theorem dX6_closest_24 : decode cX6_closest 24 = .ok (.checkcast 142, 3) := by decide +kernel
theorem dX6_closest_27 : decode cX6_closest 27 = .ok (.astore_n 2, 1) := by decide +kernel
theorem dX6_closest_28 : decode cX6_closest 28 = .ok (.bipush (-6), 2) := by decide +kernel
theorem dX6_closest_30 : decode cX6_closest 30 = .ok (.istore_n 3, 1) := by decide +kernel
theorem dX6_closest_31 : decode cX6_closest 31 = .ok (.iconst (-1), 1) := by decide +kernel
theorem dX6_closest_32 : decode cX6_closest 32 = .ok (.istore 4, 2) := by decide +kernel
theorem dX6_closest_34 : decode cX6_closest 34 = .ok (.iconst 0, 1) := by decide +kernel
theorem dX6_closest_35 : decode cX6_closest 35 = .ok (.istore 5, 2) := by decide +kernel
theorem dX6_closest_37 : decode cX6_closest 37 = .ok (.iload 5, 2) := by decide +kernel
theorem dX6_closest_39 : decode cX6_closest 39 = .ok (.aload_n 0, 1) := by decide +kernel
theorem dX6_closest_40 : decode cX6_closest 40 = .ok (.getfield 10, 3) := by decide +kernel
theorem dX6_closest_43 : decode cX6_closest 43 = .ok (.getfield 119, 3) := by decide +kernel
theorem dX6_closest_46 : decode cX6_closest 46 = .ok (.invokevirtual 129, 3) := by decide +kernel
theorem dX6_closest_49 : decode cX6_closest 49 = .ok (.if_icmp .ge 54, 3) := by decide +kernel
theorem dX6_closest_52 : decode cX6_closest 52 = .ok (.iload 5, 2) := by decide +kernel
theorem dX6_closest_54 : decode cX6_closest 54 = .ok (.iload_n 1, 1) := by decide +kernel
theorem dX6_closest_55 : decode cX6_closest 55 = .ok (.if_icmp .ne 7, 3) := by decide +kernel
theorem dX6_closest_58 : decode cX6_closest 58 = .ok (.iconst (-1), 1) := by decide +kernel
theorem dX6_closest_59 : decode cX6_closest 59 = .ok (.goto 22, 3) := by decide +kernel
theorem dX6_closest_62 : decode cX6_closest 62 = .ok (.aload_n 2, 1) := by decide +kernel
theorem dX6_closest_63 : decode cX6_closest 63 = .ok (.aload_n 0, 1) := by decide +kernel
theorem dX6_closest_64 : decode cX6_closest 64 = .ok (.getfield 10, 3) := by decide +kernel
theorem dX6_closest_67 : decode cX6_closest 67 = .ok (.getfield 119, 3) := by decide +kernel
theorem dX6_closest_70 : decode cX6_closest 70 = .ok (.iload 5, 2) := by decide +kernel
theorem dX6_closest_72 : decode cX6_closest 72 = .ok (.invokevirtual 139, 3) := by decide +kernel
theorem dX6_closest_75 : decode cX6_closest 75 = .ok (.checkcast 142, 3) := by decide +kernel
theorem dX6_closest_78 : decode cX6_closest 78 = .ok (.invokevirtual 180, 3) := by decide +kernel
theorem dX6_closest_81 : decode cX6_closest 81 = .ok (.istore 6, 2) := by decide +kernel
theorem dX6_closest_83 : decode cX6_closest 83 = .ok (.iload 6, 2) := by decide +kernel
theorem dX6_closest_85 : decode cX6_closest 85 = .ok (.iload 4, 2) := by decide +kernel
theorem dX6_closest_87 : decode cX6_closest 87 = .ok (.if_icmp .le 10, 3) := by decide +kernel
theorem dX6_closest_90 : decode cX6_closest 90 = .ok (.iload 6, 2) := by decide +kernel
theorem dX6_closest_92 : decode cX6_closest 92 = .ok (.istore 4, 2) := by decide +kernel
theorem dX6_closest_94 : decode cX6_closest 94 = .ok (.iload 5, 2) := by decide +kernel
theorem dX6_closest_96 : decode cX6_closest 96 = .ok (.istore_n 3, 1) := by decide +kernel
theorem dX6_closest_97 : decode cX6_closest 97 = .ok (.iinc 5 1, 3) := by decide +kernel
theorem dX6_closest_100 : decode cX6_closest 100 = .ok (.goto (-63), 3) := by decide +kernel
theorem dX6_closest_103 : decode cX6_closest 103 = .ok (.iload_n 3, 1) := by decide +kernel
theorem dX6_closest_104 : decode cX6_closest 104 = .ok (.ireturn, 1) := by decide +kernel
theorem dX6_unknown_0 : decode cX6_unknown 0 = .ok (.iconst 0, 1) := by decide +kernel
theorem dX6_unknown_1 : decode cX6_unknown 1 = .ok (.istore_n 1, 1) := by decide +kernel
theorem dX6_unknown_2 : decode cX6_unknown 2 = .ok (.iconst 0, 1) := by decide +kernel
theorem dX6_unknown_3 : decode cX6_unknown 3 = .ok (.istore_n 2, 1) := by decide +kernel
theorem dX6_unknown_4 : decode cX6_unknown 4 = .ok (.iload_n 2, 1) := by decide +kernel
theorem dX6_unknown_5 : decode cX6_unknown 5 = .ok (.aload_n 0, 1) := by decide +kernel
theorem dX6_unknown_6 : decode cX6_unknown 6 = .ok (.getfield 10, 3) := by decide +kernel
theorem dX6_unknown_9 : decode cX6_unknown 9 = .ok (.getfield 119, 3) := by decide +kernel
theorem dX6_unknown_12 : decode cX6_unknown 12 = .ok (.invokevirtual 129, 3) := by decide +kernel
theorem dX6_unknown_15 : decode cX6_unknown 15 = .ok (.if_icmp .ge 34, 3) := by decide +kernel
theorem dX6_unknown_18 : decode cX6_unknown 18 = .ok (.aload_n 0, 1) := by decide +kernel
theorem dX6_unknown_19 : decode cX6_unknown 19 = .ok (.getfield 43, 3) := by decide +kernel
theorem dX6_unknown_22 : decode cX6_unknown 22 = .ok (.aload_n 0, 1) := by decide +kernel
theorem dX6_unknown_23 : decode cX6_unknown 23 = .ok (.getfield 10, 3) := by decide +kernel
theorem dX6_unknown_26 : decode cX6_unknown 26 = .ok (.iload_n 2, 1) := by decide +kernel
theorem dX6_unknown_27 : decode cX6_unknown 27 = .ok (.invokevirtual 148, 3) := by decide +kernel
theorem dX6_unknown_30 : decode cX6_unknown 30 = .ok (.aload_n 0, 1) := by decide +kernel
theorem dX6_unknown_31 : decode cX6_unknown 31 = .ok (.getfield 43, 3) := by decide +kernel
theorem dX6_unknown_34 : decode cX6_unknown 34 = .ok (.invokevirtual 162, 3) := by decide +kernel
theorem dX6_unknown_37 : decode cX6_unknown 37 = .ok (.ifCond .ne 6, 3) := by decide +kernel
theorem dX6_unknown_40 : decode cX6_unknown 40 = .ok (.iinc 1 1, 3) := by decide +kernel
theorem dX6_unknown_43 : decode cX6_unknown 43 = .ok (.iinc 2 1, 3) := by decide +kernel
theorem dX6_unknown_46 : decode cX6_unknown 46 = .ok (.goto (-42), 3) := by decide +kernel
theorem dX6_unknown_49 : decode cX6_unknown 49 = .ok (.iload_n 1, 1) := by decide +kernel
theorem dX6_unknown_50 : decode cX6_unknown 50 = .ok (.ireturn, 1) := by decide +kernel
theorem dX6_hardest_0 : decode cX6_hardest 0 = .ok (.bipush (-6), 2) := by decide +kernel
theorem dX6_hardest_2 : decode cX6_hardest 2 = .ok (.istore_n 1, 1) := by decide +kernel
theorem dX6_hardest_3 : decode cX6_hardest 3 = .ok (.iconst 0, 1) := by decide +kernel
theorem dX6_hardest_4 : decode cX6_hardest 4 = .ok (.istore_n 2, 1) := by decide +kernel
theorem dX6_hardest_5 : decode cX6_hardest 5 = .ok (.iconst 0, 1) := by decide +kernel
theorem dX6_hardest_6 : decode cX6_hardest 6 = .ok (.istore_n 3, 1) := by decide +kernel
theorem dX6_hardest_7 : decode cX6_hardest 7 = .ok (.iload_n 3, 1) := by decide +kernel
theorem dX6_hardest_8 : decode cX6_hardest 8 = .ok (.aload_n 0, 1) := by decide +kernel
theorem dX6_hardest_9 : decode cX6_hardest 9 = .ok (.getfield 10, 3) := by decide +kernel
theorem dX6_hardest_12 : decode cX6_hardest 12 = .ok (.getfield 119, 3) := by decide +kernel
theorem dX6_hardest_15 : decode cX6_hardest 15 = .ok (.invokevirtual 129, 3) := by decide +kernel
theorem dX6_hardest_18 : decode cX6_hardest 18 = .ok (.if_icmp .ge 52, 3) := by decide +kernel
theorem dX6_hardest_21 : decode cX6_hardest 21 = .ok (.aload_n 0, 1) := by decide +kernel
theorem dX6_hardest_22 : decode cX6_hardest 22 = .ok (.getfield 43, 3) := by decide +kernel
theorem dX6_hardest_25 : decode cX6_hardest 25 = .ok (.aload_n 0, 1) := by decide +kernel
theorem dX6_hardest_26 : decode cX6_hardest 26 = .ok (.getfield 10, 3) := by decide +kernel
theorem dX6_hardest_29 : decode cX6_hardest 29 = .ok (.iload_n 3, 1) := by decide +kernel
theorem dX6_hardest_30 : decode cX6_hardest 30 = .ok (.invokevirtual 148, 3) := by decide +kernel
theorem dX6_hardest_33 : decode cX6_hardest 33 = .ok (.aload_n 0, 1) := by decide +kernel
theorem dX6_hardest_34 : decode cX6_hardest 34 = .ok (.getfield 43, 3) := by decide +kernel
theorem dX6_hardest_37 : decode cX6_hardest 37 = .ok (.invokevirtual 162, 3) := by decide +kernel
theorem dX6_hardest_40 : decode cX6_hardest 40 = .ok (.ifCond .eq 24, 3) := by decide +kernel
theorem dX6_hardest_43 : decode cX6_hardest 43 = .ok (.aload_n 0, 1) := by decide +kernel
theorem dX6_hardest_44 : decode cX6_hardest 44 = .ok (.getfield 43, 3) := by decide +kernel
theorem dX6_hardest_47 : decode cX6_hardest 47 = .ok (.getfield 168, 3) := by decide +kernel
theorem dX6_hardest_50 : decode cX6_hardest 50 = .ok (.iload_n 2, 1) := by decide +kernel
theorem dX6_hardest_51 : decode cX6_hardest 51 = .ok (.if_icmp .le 13, 3) := by decide +kernel
theorem dX6_hardest_54 : decode cX6_hardest 54 = .ok (.aload_n 0, 1) := by decide +kernel
theorem dX6_hardest_55 : decode cX6_hardest 55 = .ok (.getfield 43, 3) := by decide +kernel
theorem dX6_hardest_58 : decode cX6_hardest 58 = .ok (.getfield 168, 3) := by decide +kernel
theorem dX6_hardest_61 : decode cX6_hardest 61 = .ok (.istore_n 2, 1) := by decide +kernel
theorem dX6_hardest_62 : decode cX6_hardest 62 = .ok (.iload_n 3, 1) := by decide +kernel
theorem dX6_hardest_63 : decode cX6_hardest 63 = .ok (.istore_n 1, 1) := by decide +kernel
theorem dX6_hardest_64 : decode cX6_hardest 64 = .ok (.iinc 3 1, 3) := by decide +kernel
theorem dX6_hardest_67 : decode cX6_hardest 67 = .ok (.goto (-60), 3) := by decide +kernel
theorem dX6_hardest_70 : decode cX6_hardest 70 = .ok (.iload_n 1, 1) := by decide +kernel
theorem dX6_hardest_71 : decode cX6_hardest 71 = .ok (.ireturn, 1) := by decide +kernel
theorem dX6_ifAdded_0 : decode cX6_ifAdded 0 = .ok (.aload_n 0, 1) := by decide +kernel
theorem dX6_ifAdded_1 : decode cX6_ifAdded 1 = .ok (.getfield 29, 3) := by decide +kernel
theorem dX6_ifAdded_4 : decode cX6_ifAdded 4 = .ok (.invokevirtual 113, 3) := by decide +kernel
theorem dX6_ifAdded_7 : decode cX6_ifAdded 7 = .ok (.ifCond .ne 6, 3) := by decide +kernel
theorem dX6_ifAdded_10 : decode cX6_ifAdded 10 = .ok (.bipush (-5), 2) := by decide +kernel
theorem dX6_ifAdded_12 : decode cX6_ifAdded 12 = .ok (.ireturn, 1) := by decide +kernel
theorem dX6_ifAdded_13 : decode cX6_ifAdded 13 = .ok (.aload_n 0, 1) := by decide +kernel
theorem dX6_ifAdded_14 : decode cX6_ifAdded 14 = .ok (.getfield 29, 3) := by decide +kernel
theorem dX6_ifAdded_17 : decode cX6_ifAdded 17 = .ok (.invokevirtual 82, 3) := by decide +kernel
theorem dX6_ifAdded_20 : decode cX6_ifAdded 20 = .ok (.astore_n 1, 1) := by decide +kernel
theorem dX6_ifAdded_21 : decode cX6_ifAdded 21 = .ok (.aload_n 0, 1) := by decide +kernel
theorem dX6_ifAdded_22 : decode cX6_ifAdded 22 = .ok (.getfield 10, 3) := by decide +kernel
theorem dX6_ifAdded_25 : decode cX6_ifAdded 25 = .ok (.aload_n 1, 1) := by decide +kernel
theorem dX6_ifAdded_26 : decode cX6_ifAdded 26 = .ok (.invokevirtual 116, 3) := by decide +kernel
theorem dX6_ifAdded_29 : decode cX6_ifAdded 29 = .ok (.istore_n 2, 1) := by decide +kernel
theorem dX6_ifAdded_30 : decode cX6_ifAdded 30 = .ok (.iload_n 2, 1) := by decide +kernel
theorem dX6_ifAdded_31 : decode cX6_ifAdded 31 = .ok (.ifCond .ge 5, 3) := by decide +kernel
theorem dX6_ifAdded_34 : decode cX6_ifAdded 34 = .ok (.iload_n 2, 1) := by decide +kernel
theorem dX6_ifAdded_35 : decode cX6_ifAdded 35 = .ok (.ireturn, 1) := by decide +kernel
theorem dX6_ifAdded_36 : decode cX6_ifAdded 36 = .ok (.aload_n 0, 1) := by decide +kernel
theorem dX6_ifAdded_37 : decode cX6_ifAdded 37 = .ok (.getfield 16, 3) := by decide +kernel
theorem dX6_ifAdded_40 : decode cX6_ifAdded 40 = .ok (.aload_n 0, 1) := by decide +kernel
theorem dX6_ifAdded_41 : decode cX6_ifAdded 41 = .ok (.getfield 10, 3) := by decide +kernel
theorem dX6_ifAdded_44 : decode cX6_ifAdded 44 = .ok (.invokevirtual 183, 3) := by decide +kernel
theorem dX6_ifAdded_47 : decode cX6_ifAdded 47 = .ok (.aload_n 0, 1) := by decide +kernel
theorem dX6_ifAdded_48 : decode cX6_ifAdded 48 = .ok (.getfield 16, 3) := by decide +kernel
theorem dX6_ifAdded_51 : decode cX6_ifAdded 51 = .ok (.getfield 119, 3) := by decide +kernel
theorem dX6_ifAdded_54 : decode cX6_ifAdded 54 = .ok (.aload_n 1, 1) := by decide +kernel
theorem dX6_ifAdded_55 : decode cX6_ifAdded 55 = .ok (.invokevirtual 123, 3) := by decide +kernel
theorem dX6_ifAdded_58 : decode cX6_ifAdded 58 = .ok (.pop, 1) := by decide +kernel
theorem dX6_ifAdded_59 : decode cX6_ifAdded 59 = .ok (.iconst 0, 1) := by decide +kernel
theorem dX6_ifAdded_60 : decode cX6_ifAdded 60 = .ok (.istore_n 3, 1) := by decide +kernel
theorem dX6_ifAdded_61 : decode cX6_ifAdded 61 = .ok (.iconst 0, 1) := by decide +kernel
theorem dX6_ifAdded_62 : decode cX6_ifAdded 62 = .ok (.istore 4, 2) := by decide +kernel
theorem dX6_ifAdded_64 : decode cX6_ifAdded 64 = .ok (.iload 4, 2) := by decide +kernel
theorem dX6_ifAdded_66 : decode cX6_ifAdded 66 = .ok (.aload_n 0, 1) := by decide +kernel
theorem dX6_ifAdded_67 : decode cX6_ifAdded 67 = .ok (.getfield 10, 3) := by decide +kernel
theorem dX6_ifAdded_70 : decode cX6_ifAdded 70 = .ok (.getfield 119, 3) := by decide +kernel
theorem dX6_ifAdded_73 : decode cX6_ifAdded 73 = .ok (.invokevirtual 129, 3) := by decide +kernel
theorem dX6_ifAdded_76 : decode cX6_ifAdded 76 = .ok (.if_icmp .ge 21, 3) := by decide +kernel
theorem dX6_ifAdded_79 : decode cX6_ifAdded 79 = .ok (.aload_n 0, 1) := by decide +kernel
theorem dX6_ifAdded_80 : decode cX6_ifAdded 80 = .ok (.iload 4, 2) := by decide +kernel
theorem dX6_ifAdded_82 : decode cX6_ifAdded 82 = .ok (.invokevirtual 186, 3) := by decide +kernel
theorem dX6_ifAdded_85 : decode cX6_ifAdded 85 = .ok (.ifCond .eq 6, 3) := by decide +kernel
theorem dX6_ifAdded_88 : decode cX6_ifAdded 88 = .ok (.iinc 3 1, 3) := by decide +kernel
theorem dX6_ifAdded_91 : decode cX6_ifAdded 91 = .ok (.iinc 4 1, 3) := by decide +kernel
theorem dX6_ifAdded_94 : decode cX6_ifAdded 94 = .ok (.goto (-30), 3) := by decide +kernel
theorem dX6_ifAdded_97 : decode cX6_ifAdded 97 = .ok (.iload_n 3, 1) := by decide +kernel
theorem dX6_ifAdded_98 : decode cX6_ifAdded 98 = .ok (.ireturn, 1) := by decide +kernel
theorem dX6_keyWouldChange_0 : decode cX6_keyWouldChange 0 = .ok (.aload_n 0, 1) := by decide +kernel
theorem dX6_keyWouldChange_1 : decode cX6_keyWouldChange 1 = .ok (.getfield 43, 3) := by decide +kernel
theorem dX6_keyWouldChange_4 : decode cX6_keyWouldChange 4 = .ok (.aload_n 0, 1) := by decide +kernel
theorem dX6_keyWouldChange_5 : decode cX6_keyWouldChange 5 = .ok (.getfield 10, 3) := by decide +kernel
theorem dX6_keyWouldChange_8 : decode cX6_keyWouldChange 8 = .ok (.iload_n 1, 1) := by decide +kernel
theorem dX6_keyWouldChange_9 : decode cX6_keyWouldChange 9 = .ok (.invokevirtual 148, 3) := by decide +kernel
theorem dX6_keyWouldChange_12 : decode cX6_keyWouldChange 12 = .ok (.aload_n 0, 1) := by decide +kernel
theorem dX6_keyWouldChange_13 : decode cX6_keyWouldChange 13 = .ok (.getfield 43, 3) := by decide +kernel
theorem dX6_keyWouldChange_16 : decode cX6_keyWouldChange 16 = .ok (.getfield 165, 3) := by decide +kernel
theorem dX6_keyWouldChange_19 : decode cX6_keyWouldChange 19 = .ok (.istore_n 2, 1) := by decide +kernel
theorem dX6_keyWouldChange_20 : decode cX6_keyWouldChange 20 = .ok (.aload_n 0, 1) := by decide +kernel
theorem dX6_keyWouldChange_21 : decode cX6_keyWouldChange 21 = .ok (.getfield 43, 3) := by decide +kernel
theorem dX6_keyWouldChange_24 : decode cX6_keyWouldChange 24 = .ok (.getfield 168, 3) := by decide +kernel
theorem dX6_keyWouldChange_27 : decode cX6_keyWouldChange 27 = .ok (.istore_n 3, 1) := by decide +kernel
theorem dX6_keyWouldChange_28 : decode cX6_keyWouldChange 28 = .ok (.aload_n 0, 1) := by decide +kernel
theorem dX6_keyWouldChange_29 : decode cX6_keyWouldChange 29 = .ok (.getfield 43, 3) := by decide +kernel
theorem dX6_keyWouldChange_32 : decode cX6_keyWouldChange 32 = .ok (.aload_n 0, 1) := by decide +kernel
theorem dX6_keyWouldChange_33 : decode cX6_keyWouldChange 33 = .ok (.getfield 16, 3) := by decide +kernel
theorem dX6_keyWouldChange_36 : decode cX6_keyWouldChange 36 = .ok (.iload_n 1, 1) := by decide +kernel
theorem dX6_keyWouldChange_37 : decode cX6_keyWouldChange 37 = .ok (.invokevirtual 148, 3) := by decide +kernel
theorem dX6_keyWouldChange_40 : decode cX6_keyWouldChange 40 = .ok (.aload_n 0, 1) := by decide +kernel
theorem dX6_keyWouldChange_41 : decode cX6_keyWouldChange 41 = .ok (.getfield 43, 3) := by decide +kernel
theorem dX6_keyWouldChange_44 : decode cX6_keyWouldChange 44 = .ok (.getfield 165, 3) := by decide +kernel
theorem dX6_keyWouldChange_47 : decode cX6_keyWouldChange 47 = .ok (.iload_n 2, 1) := by decide +kernel
theorem dX6_keyWouldChange_48 : decode cX6_keyWouldChange 48 = .ok (.if_icmp .ne 14, 3) := by decide +kernel
theorem dX6_keyWouldChange_51 : decode cX6_keyWouldChange 51 = .ok (.aload_n 0, 1) := by decide +kernel
theorem dX6_keyWouldChange_52 : decode cX6_keyWouldChange 52 = .ok (.getfield 43, 3) := by decide +kernel
theorem dX6_keyWouldChange_55 : decode cX6_keyWouldChange 55 = .ok (.getfield 168, 3) := by decide +kernel
theorem dX6_keyWouldChange_58 : decode cX6_keyWouldChange 58 = .ok (.iload_n 3, 1) := by decide +kernel
theorem dX6_keyWouldChange_59 : decode cX6_keyWouldChange 59 = .ok (.if_icmp .eq 7, 3) := by decide +kernel
theorem dX6_keyWouldChange_62 : decode cX6_keyWouldChange 62 = .ok (.iconst 1, 1) := by decide +kernel
theorem dX6_keyWouldChange_63 : decode cX6_keyWouldChange 63 = .ok (.goto 4, 3) := by decide +kernel
theorem dX6_keyWouldChange_66 : decode cX6_keyWouldChange 66 = .ok (.iconst 0, 1) := by decide +kernel
theorem dX6_keyWouldChange_67 : decode cX6_keyWouldChange 67 = .ok (.ireturn, 1) := by decide +kernel
theorem dX6_setMode_0 : decode cX6_setMode 0 = .ok (.iload_n 1, 1) := by decide +kernel
theorem dX6_setMode_1 : decode cX6_setMode 1 = .ok (.ifCond .lt 8, 3) := by decide +kernel
theorem dX6_setMode_4 : decode cX6_setMode 4 = .ok (.iload_n 1, 1) := by decide +kernel
theorem dX6_setMode_5 : decode cX6_setMode 5 = .ok (.iconst 3, 1) := by decide +kernel
theorem dX6_setMode_6 : decode cX6_setMode 6 = .ok (.if_icmp .le 6, 3) := by decide +kernel
theorem dX6_setMode_9 : decode cX6_setMode 9 = .ok (.bipush (-2), 2) := by decide +kernel
theorem dX6_setMode_11 : decode cX6_setMode 11 = .ok (.ireturn, 1) := by decide +kernel
theorem dX6_setMode_12 : decode cX6_setMode 12 = .ok (.aload_n 0, 1) := by decide +kernel
theorem dX6_setMode_13 : decode cX6_setMode 13 = .ok (.getfield 10, 3) := by decide +kernel
theorem dX6_setMode_16 : decode cX6_setMode 16 = .ok (.getfield 97, 3) := by decide +kernel
theorem dX6_setMode_19 : decode cX6_setMode 19 = .ok (.istore_n 2, 1) := by decide +kernel
theorem dX6_setMode_20 : decode cX6_setMode 20 = .ok (.aload_n 0, 1) := by decide +kernel
theorem dX6_setMode_21 : decode cX6_setMode 21 = .ok (.getfield 22, 3) := by decide +kernel
theorem dX6_setMode_24 : decode cX6_setMode 24 = .ok (.aload_n 0, 1) := by decide +kernel
theorem dX6_setMode_25 : decode cX6_setMode 25 = .ok (.getfield 10, 3) := by decide +kernel
theorem dX6_setMode_28 : decode cX6_setMode 28 = .ok (.invokevirtual 62, 3) := by decide +kernel
theorem dX6_setMode_31 : decode cX6_setMode 31 = .ok (.aload_n 0, 1) := by decide +kernel
theorem dX6_setMode_32 : decode cX6_setMode 32 = .ok (.getfield 10, 3) := by decide +kernel
theorem dX6_setMode_35 : decode cX6_setMode 35 = .ok (.iload_n 1, 1) := by decide +kernel
theorem dX6_setMode_36 : decode cX6_setMode 36 = .ok (.putfield 97, 3) := by decide +kernel
theorem dX6_setMode_39 : decode cX6_setMode 39 = .ok (.iload_n 2, 1) := by decide +kernel
theorem dX6_setMode_40 : decode cX6_setMode 40 = .ok (.ireturn, 1) := by decide +kernel
theorem dX6_setOrder_0 : decode cX6_setOrder 0 = .ok (.iload_n 1, 1) := by decide +kernel
theorem dX6_setOrder_1 : decode cX6_setOrder 1 = .ok (.ifCond .lt 8, 3) := by decide +kernel
theorem dX6_setOrder_4 : decode cX6_setOrder 4 = .ok (.iload_n 1, 1) := by decide +kernel
theorem dX6_setOrder_5 : decode cX6_setOrder 5 = .ok (.iconst 2, 1) := by decide +kernel
theorem dX6_setOrder_6 : decode cX6_setOrder 6 = .ok (.if_icmp .le 6, 3) := by decide +kernel
theorem dX6_setOrder_9 : decode cX6_setOrder 9 = .ok (.bipush (-2), 2) := by decide +kernel
theorem dX6_setOrder_11 : decode cX6_setOrder 11 = .ok (.ireturn, 1) := by decide +kernel
theorem dX6_setOrder_12 : decode cX6_setOrder 12 = .ok (.aload_n 0, 1) := by decide +kernel
theorem dX6_setOrder_13 : decode cX6_setOrder 13 = .ok (.getfield 10, 3) := by decide +kernel
theorem dX6_setOrder_16 : decode cX6_setOrder 16 = .ok (.getfield 100, 3) := by decide +kernel
theorem dX6_setOrder_19 : decode cX6_setOrder 19 = .ok (.istore_n 2, 1) := by decide +kernel
theorem dX6_setOrder_20 : decode cX6_setOrder 20 = .ok (.aload_n 0, 1) := by decide +kernel
theorem dX6_setOrder_21 : decode cX6_setOrder 21 = .ok (.getfield 22, 3) := by decide +kernel
theorem dX6_setOrder_24 : decode cX6_setOrder 24 = .ok (.aload_n 0, 1) := by decide +kernel
theorem dX6_setOrder_25 : decode cX6_setOrder 25 = .ok (.getfield 10, 3) := by decide +kernel
theorem dX6_setOrder_28 : decode cX6_setOrder 28 = .ok (.invokevirtual 62, 3) := by decide +kernel
theorem dX6_setOrder_31 : decode cX6_setOrder 31 = .ok (.aload_n 0, 1) := by decide +kernel
theorem dX6_setOrder_32 : decode cX6_setOrder 32 = .ok (.getfield 10, 3) := by decide +kernel
theorem dX6_setOrder_35 : decode cX6_setOrder 35 = .ok (.iload_n 1, 1) := by decide +kernel
theorem dX6_setOrder_36 : decode cX6_setOrder 36 = .ok (.putfield 100, 3) := by decide +kernel
theorem dX6_setOrder_39 : decode cX6_setOrder 39 = .ok (.iload_n 2, 1) := by decide +kernel
theorem dX6_setOrder_40 : decode cX6_setOrder 40 = .ok (.ireturn, 1) := by decide +kernel
theorem dX6_mode_0 : decode cX6_mode 0 = .ok (.aload_n 0, 1) := by decide +kernel
theorem dX6_mode_1 : decode cX6_mode 1 = .ok (.getfield 10, 3) := by decide +kernel
theorem dX6_mode_4 : decode cX6_mode 4 = .ok (.getfield 97, 3) := by decide +kernel
theorem dX6_mode_7 : decode cX6_mode 7 = .ok (.ireturn, 1) := by decide +kernel
theorem dX6_order_0 : decode cX6_order 0 = .ok (.aload_n 0, 1) := by decide +kernel
theorem dX6_order_1 : decode cX6_order 1 = .ok (.getfield 10, 3) := by decide +kernel
theorem dX6_order_4 : decode cX6_order 4 = .ok (.getfield 100, 3) := by decide +kernel
theorem dX6_order_7 : decode cX6_order 7 = .ok (.ireturn, 1) := by decide +kernel
theorem dX6_ask_0 : decode cX6_ask 0 = .ok (.iload_n 1, 1) := by decide +kernel
theorem dX6_ask_1 : decode cX6_ask 1 = .ok (.bipush 32, 2) := by decide +kernel
theorem dX6_ask_3 : decode cX6_ask 3 = .ok (.if_icmp .eq 13, 3) := by decide +kernel
theorem dX6_ask_6 : decode cX6_ask 6 = .ok (.iload_n 1, 1) := by decide +kernel
theorem dX6_ask_7 : decode cX6_ask 7 = .ok (.invokestatic 189, 3) := by decide +kernel
theorem dX6_ask_10 : decode cX6_ask 10 = .ok (.ifCond .ne 6, 3) := by decide +kernel
theorem dX6_ask_13 : decode cX6_ask 13 = .ok (.bipush (-2), 2) := by decide +kernel
theorem dX6_ask_15 : decode cX6_ask 15 = .ok (.ireturn, 1) := by decide +kernel
theorem dX6_ask_16 : decode cX6_ask 16 = .ok (.iload_n 1, 1) := by decide +kernel
theorem dX6_ask_17 : decode cX6_ask 17 = .ok (.bipush 32, 2) := by decide +kernel
theorem dX6_ask_19 : decode cX6_ask 19 = .ok (.if_icmp .ne 16, 3) := by decide +kernel
theorem dX6_ask_22 : decode cX6_ask 22 = .ok (.aload_n 0, 1) := by decide +kernel
theorem dX6_ask_23 : decode cX6_ask 23 = .ok (.getfield 10, 3) := by decide +kernel
theorem dX6_ask_26 : decode cX6_ask 26 = .ok (.invokevirtual 192, 3) := by decide +kernel
theorem dX6_ask_29 : decode cX6_ask 29 = .ok (.ifCond .ne 6, 3) := by decide +kernel
theorem dX6_ask_32 : decode cX6_ask 32 = .ok (.bipush (-3), 2) := by decide +kernel
theorem dX6_ask_34 : decode cX6_ask 34 = .ok (.ireturn, 1) := by decide +kernel
theorem dX6_ask_35 : decode cX6_ask 35 = .ok (.aload_n 0, 1) := by decide +kernel
theorem dX6_ask_36 : decode cX6_ask 36 = .ok (.getfield 10, 3) := by decide +kernel
theorem dX6_ask_39 : decode cX6_ask 39 = .ok (.getfield 110, 3) := by decide +kernel
theorem dX6_ask_42 : decode cX6_ask 42 = .ok (.bipush 24, 2) := by decide +kernel
theorem dX6_ask_44 : decode cX6_ask 44 = .ok (.if_icmp .lt 6, 3) := by decide +kernel
theorem dX6_ask_47 : decode cX6_ask 47 = .ok (.bipush (-4), 2) := by decide +kernel
theorem dX6_ask_49 : decode cX6_ask 49 = .ok (.ireturn, 1) := by decide +kernel
theorem dX6_ask_50 : decode cX6_ask 50 = .ok (.aload_n 0, 1) := by decide +kernel
theorem dX6_ask_51 : decode cX6_ask 51 = .ok (.getfield 22, 3) := by decide +kernel
theorem dX6_ask_54 : decode cX6_ask 54 = .ok (.aload_n 0, 1) := by decide +kernel
theorem dX6_ask_55 : decode cX6_ask 55 = .ok (.getfield 10, 3) := by decide +kernel
theorem dX6_ask_58 : decode cX6_ask 58 = .ok (.invokevirtual 62, 3) := by decide +kernel
theorem dX6_ask_61 : decode cX6_ask 61 = .ok (.aload_n 0, 1) := by decide +kernel
theorem dX6_ask_62 : decode cX6_ask 62 = .ok (.getfield 10, 3) := by decide +kernel
theorem dX6_ask_65 : decode cX6_ask 65 = .ok (.iload_n 1, 1) := by decide +kernel
theorem dX6_ask_66 : decode cX6_ask 66 = .ok (.i2c, 1) := by decide +kernel
theorem dX6_ask_67 : decode cX6_ask 67 = .ok (.invokevirtual 195, 3) := by decide +kernel
theorem dX6_ask_70 : decode cX6_ask 70 = .ok (.aload_n 0, 1) := by decide +kernel
theorem dX6_ask_71 : decode cX6_ask 71 = .ok (.invokevirtual 199, 3) := by decide +kernel
theorem dX6_ask_74 : decode cX6_ask 74 = .ok (.ireturn, 1) := by decide +kernel
theorem dX6_erase_0 : decode cX6_erase 0 = .ok (.aload_n 0, 1) := by decide +kernel
theorem dX6_erase_1 : decode cX6_erase 1 = .ok (.getfield 10, 3) := by decide +kernel
theorem dX6_erase_4 : decode cX6_erase 4 = .ok (.getfield 110, 3) := by decide +kernel
theorem dX6_erase_7 : decode cX6_erase 7 = .ok (.ifCond .gt 6, 3) := by decide +kernel
theorem dX6_erase_10 : decode cX6_erase 10 = .ok (.bipush (-3), 2) := by decide +kernel
theorem dX6_erase_12 : decode cX6_erase 12 = .ok (.ireturn, 1) := by decide +kernel
theorem dX6_erase_13 : decode cX6_erase 13 = .ok (.aload_n 0, 1) := by decide +kernel
theorem dX6_erase_14 : decode cX6_erase 14 = .ok (.getfield 22, 3) := by decide +kernel
theorem dX6_erase_17 : decode cX6_erase 17 = .ok (.aload_n 0, 1) := by decide +kernel
theorem dX6_erase_18 : decode cX6_erase 18 = .ok (.getfield 10, 3) := by decide +kernel
theorem dX6_erase_21 : decode cX6_erase 21 = .ok (.invokevirtual 62, 3) := by decide +kernel
theorem dX6_erase_24 : decode cX6_erase 24 = .ok (.aload_n 0, 1) := by decide +kernel
theorem dX6_erase_25 : decode cX6_erase 25 = .ok (.getfield 10, 3) := by decide +kernel
theorem dX6_erase_28 : decode cX6_erase 28 = .ok (.dup, 1) := by decide +kernel
theorem dX6_erase_29 : decode cX6_erase 29 = .ok (.getfield 110, 3) := by decide +kernel
theorem dX6_erase_32 : decode cX6_erase 32 = .ok (.iconst 1, 1) := by decide +kernel
theorem dX6_erase_33 : decode cX6_erase 33 = .ok (.isub, 1) := by decide +kernel
theorem dX6_erase_34 : decode cX6_erase 34 = .ok (.putfield 110, 3) := by decide +kernel
theorem dX6_erase_37 : decode cX6_erase 37 = .ok (.aload_n 0, 1) := by decide +kernel
theorem dX6_erase_38 : decode cX6_erase 38 = .ok (.invokevirtual 199, 3) := by decide +kernel
theorem dX6_erase_41 : decode cX6_erase 41 = .ok (.ireturn, 1) := by decide +kernel
theorem dX6_queryLength_0 : decode cX6_queryLength 0 = .ok (.aload_n 0, 1) := by decide +kernel
theorem dX6_queryLength_1 : decode cX6_queryLength 1 = .ok (.getfield 10, 3) := by decide +kernel
theorem dX6_queryLength_4 : decode cX6_queryLength 4 = .ok (.getfield 110, 3) := by decide +kernel
theorem dX6_queryLength_7 : decode cX6_queryLength 7 = .ok (.ireturn, 1) := by decide +kernel
theorem dX6_queryCharacter_0 : decode cX6_queryCharacter 0 = .ok (.iload_n 1, 1) := by decide +kernel
theorem dX6_queryCharacter_1 : decode cX6_queryCharacter 1 = .ok (.ifCond .lt 26, 3) := by decide +kernel
theorem dX6_queryCharacter_4 : decode cX6_queryCharacter 4 = .ok (.iload_n 1, 1) := by decide +kernel
theorem dX6_queryCharacter_5 : decode cX6_queryCharacter 5 = .ok (.aload_n 0, 1) := by decide +kernel
theorem dX6_queryCharacter_6 : decode cX6_queryCharacter 6 = .ok (.getfield 10, 3) := by decide +kernel
theorem dX6_queryCharacter_9 : decode cX6_queryCharacter 9 = .ok (.getfield 110, 3) := by decide +kernel
theorem dX6_queryCharacter_12 : decode cX6_queryCharacter 12 = .ok (.if_icmp .ge 15, 3) := by decide +kernel
theorem dX6_queryCharacter_15 : decode cX6_queryCharacter 15 = .ok (.iload_n 1, 1) := by decide +kernel
theorem dX6_queryCharacter_16 : decode cX6_queryCharacter 16 = .ok (.aload_n 0, 1) := by decide +kernel
theorem dX6_queryCharacter_17 : decode cX6_queryCharacter 17 = .ok (.getfield 10, 3) := by decide +kernel
theorem dX6_queryCharacter_20 : decode cX6_queryCharacter 20 = .ok (.getfield 202, 3) := by decide +kernel
theorem dX6_queryCharacter_23 : decode cX6_queryCharacter 23 = .ok (.arraylength, 1) := by decide +kernel
theorem dX6_queryCharacter_24 : decode cX6_queryCharacter 24 = .ok (.if_icmp .lt 5, 3) := by decide +kernel
theorem dX6_queryCharacter_27 : decode cX6_queryCharacter 27 = .ok (.iconst (-1), 1) := by decide +kernel
theorem dX6_queryCharacter_28 : decode cX6_queryCharacter 28 = .ok (.ireturn, 1) := by decide +kernel
theorem dX6_queryCharacter_29 : decode cX6_queryCharacter 29 = .ok (.aload_n 0, 1) := by decide +kernel
theorem dX6_queryCharacter_30 : decode cX6_queryCharacter 30 = .ok (.getfield 10, 3) := by decide +kernel
theorem dX6_queryCharacter_33 : decode cX6_queryCharacter 33 = .ok (.getfield 202, 3) := by decide +kernel
theorem dX6_queryCharacter_36 : decode cX6_queryCharacter 36 = .ok (.iload_n 1, 1) := by decide +kernel
theorem dX6_queryCharacter_37 : decode cX6_queryCharacter 37 = .ok (.caload, 1) := by decide +kernel
theorem dX6_queryCharacter_38 : decode cX6_queryCharacter 38 = .ok (.ireturn, 1) := by decide +kernel
theorem dX6_results_0 : decode cX6_results 0 = .ok (.aload_n 0, 1) := by decide +kernel
theorem dX6_results_1 : decode cX6_results 1 = .ok (.getfield 36, 3) := by decide +kernel
theorem dX6_results_4 : decode cX6_results 4 = .ok (.aload_n 0, 1) := by decide +kernel
theorem dX6_results_5 : decode cX6_results 5 = .ok (.getfield 10, 3) := by decide +kernel
theorem dX6_results_8 : decode cX6_results 8 = .ok (.invokevirtual 205, 3) := by decide +kernel
theorem dX6_results_11 : decode cX6_results 11 = .ok (.aload_n 0, 1) := by decide +kernel
theorem dX6_results_12 : decode cX6_results 12 = .ok (.getfield 36, 3) := by decide +kernel
theorem dX6_results_15 : decode cX6_results 15 = .ok (.getfield 208, 3) := by decide +kernel
theorem dX6_results_18 : decode cX6_results 18 = .ok (.ireturn, 1) := by decide +kernel
theorem dX6_result_0 : decode cX6_result 0 = .ok (.aload_n 0, 1) := by decide +kernel
theorem dX6_result_1 : decode cX6_result 1 = .ok (.getfield 36, 3) := by decide +kernel
theorem dX6_result_4 : decode cX6_result 4 = .ok (.aload_n 0, 1) := by decide +kernel
theorem dX6_result_5 : decode cX6_result 5 = .ok (.getfield 10, 3) := by decide +kernel
theorem dX6_result_8 : decode cX6_result 8 = .ok (.invokevirtual 205, 3) := by decide +kernel
theorem dX6_result_11 : decode cX6_result 11 = .ok (.aload_n 0, 1) := by decide +kernel
theorem dX6_result_12 : decode cX6_result 12 = .ok (.getfield 36, 3) := by decide +kernel
theorem dX6_result_15 : decode cX6_result 15 = .ok (.iload_n 1, 1) := by decide +kernel
theorem dX6_result_16 : decode cX6_result 16 = .ok (.invokevirtual 211, 3) := by decide +kernel
theorem dX6_result_19 : decode cX6_result 19 = .ok (.ifCond .eq 14, 3) := by decide +kernel
theorem dX6_result_22 : decode cX6_result 22 = .ok (.aload_n 0, 1) := by decide +kernel
theorem dX6_result_23 : decode cX6_result 23 = .ok (.getfield 36, 3) := by decide +kernel
theorem dX6_result_26 : decode cX6_result 26 = .ok (.iload_n 1, 1) := by decide +kernel
theorem dX6_result_27 : decode cX6_result 27 = .ok (.invokevirtual 212, 3) := by decide +kernel
theorem dX6_result_30 : decode cX6_result 30 = .ok (.goto 4, 3) := by decide +kernel
theorem dX6_result_33 : decode cX6_result 33 = .ok (.iconst (-1), 1) := by decide +kernel
theorem dX6_result_34 : decode cX6_result 34 = .ok (.ireturn, 1) := by decide +kernel
theorem dX6_matchPlace_0 : decode cX6_matchPlace 0 = .ok (.aload_n 0, 1) := by decide +kernel
theorem dX6_matchPlace_1 : decode cX6_matchPlace 1 = .ok (.getfield 36, 3) := by decide +kernel
theorem dX6_matchPlace_4 : decode cX6_matchPlace 4 = .ok (.aload_n 0, 1) := by decide +kernel
theorem dX6_matchPlace_5 : decode cX6_matchPlace 5 = .ok (.getfield 10, 3) := by decide +kernel
theorem dX6_matchPlace_8 : decode cX6_matchPlace 8 = .ok (.invokevirtual 205, 3) := by decide +kernel
theorem dX6_matchPlace_11 : decode cX6_matchPlace 11 = .ok (.aload_n 0, 1) := by decide +kernel
theorem dX6_matchPlace_12 : decode cX6_matchPlace 12 = .ok (.getfield 36, 3) := by decide +kernel
theorem dX6_matchPlace_15 : decode cX6_matchPlace 15 = .ok (.iload_n 1, 1) := by decide +kernel
theorem dX6_matchPlace_16 : decode cX6_matchPlace 16 = .ok (.invokevirtual 211, 3) := by decide +kernel
theorem dX6_matchPlace_19 : decode cX6_matchPlace 19 = .ok (.ifCond .eq 14, 3) := by decide +kernel
theorem dX6_matchPlace_22 : decode cX6_matchPlace 22 = .ok (.aload_n 0, 1) := by decide +kernel
theorem dX6_matchPlace_23 : decode cX6_matchPlace 23 = .ok (.getfield 36, 3) := by decide +kernel
theorem dX6_matchPlace_26 : decode cX6_matchPlace 26 = .ok (.iload_n 1, 1) := by decide +kernel
theorem dX6_matchPlace_27 : decode cX6_matchPlace 27 = .ok (.invokevirtual 215, 3) := by decide +kernel
theorem dX6_matchPlace_30 : decode cX6_matchPlace 30 = .ok (.goto 4, 3) := by decide +kernel
theorem dX6_matchPlace_33 : decode cX6_matchPlace 33 = .ok (.iconst (-1), 1) := by decide +kernel
theorem dX6_matchPlace_34 : decode cX6_matchPlace 34 = .ok (.ireturn, 1) := by decide +kernel
theorem dX6_pick_0 : decode cX6_pick 0 = .ok (.aload_n 0, 1) := by decide +kernel
theorem dX6_pick_1 : decode cX6_pick 1 = .ok (.getfield 36, 3) := by decide +kernel
theorem dX6_pick_4 : decode cX6_pick 4 = .ok (.aload_n 0, 1) := by decide +kernel
theorem dX6_pick_5 : decode cX6_pick 5 = .ok (.getfield 10, 3) := by decide +kernel
theorem dX6_pick_8 : decode cX6_pick 8 = .ok (.invokevirtual 205, 3) := by decide +kernel
theorem dX6_pick_11 : decode cX6_pick 11 = .ok (.aload_n 0, 1) := by decide +kernel
theorem dX6_pick_12 : decode cX6_pick 12 = .ok (.getfield 36, 3) := by decide +kernel
theorem dX6_pick_15 : decode cX6_pick 15 = .ok (.iload_n 1, 1) := by decide +kernel
theorem dX6_pick_16 : decode cX6_pick 16 = .ok (.invokevirtual 211, 3) := by decide +kernel
theorem dX6_pick_19 : decode cX6_pick 19 = .ok (.ifCond .ne 5, 3) := by decide +kernel
theorem dX6_pick_22 : decode cX6_pick 22 = .ok (.iconst (-1), 1) := by decide +kernel
theorem dX6_pick_23 : decode cX6_pick 23 = .ok (.ireturn, 1) := by decide +kernel
theorem dX6_pick_24 : decode cX6_pick 24 = .ok (.aload_n 0, 1) := by decide +kernel
theorem dX6_pick_25 : decode cX6_pick 25 = .ok (.getfield 22, 3) := by decide +kernel
theorem dX6_pick_28 : decode cX6_pick 28 = .ok (.aload_n 0, 1) := by decide +kernel
theorem dX6_pick_29 : decode cX6_pick 29 = .ok (.getfield 10, 3) := by decide +kernel
theorem dX6_pick_32 : decode cX6_pick 32 = .ok (.invokevirtual 62, 3) := by decide +kernel
theorem dX6_pick_35 : decode cX6_pick 35 = .ok (.aload_n 0, 1) := by decide +kernel
theorem dX6_pick_36 : decode cX6_pick 36 = .ok (.iload_n 1, 1) := by decide +kernel
theorem dX6_pick_37 : decode cX6_pick 37 = .ok (.invokevirtual 106, 3) := by decide +kernel
theorem dX6_pick_40 : decode cX6_pick 40 = .ok (.ireturn, 1) := by decide +kernel
theorem dX6_pickIfThere_0 : decode cX6_pickIfThere 0 = .ok (.aload_n 0, 1) := by decide +kernel
theorem dX6_pickIfThere_1 : decode cX6_pickIfThere 1 = .ok (.getfield 36, 3) := by decide +kernel
theorem dX6_pickIfThere_4 : decode cX6_pickIfThere 4 = .ok (.aload_n 0, 1) := by decide +kernel
theorem dX6_pickIfThere_5 : decode cX6_pickIfThere 5 = .ok (.getfield 10, 3) := by decide +kernel
theorem dX6_pickIfThere_8 : decode cX6_pickIfThere 8 = .ok (.invokevirtual 205, 3) := by decide +kernel
theorem dX6_pickIfThere_11 : decode cX6_pickIfThere 11 = .ok (.aload_n 0, 1) := by decide +kernel
theorem dX6_pickIfThere_12 : decode cX6_pickIfThere 12 = .ok (.getfield 36, 3) := by decide +kernel
theorem dX6_pickIfThere_15 : decode cX6_pickIfThere 15 = .ok (.iload_n 1, 1) := by decide +kernel
theorem dX6_pickIfThere_16 : decode cX6_pickIfThere 16 = .ok (.invokevirtual 211, 3) := by decide +kernel
theorem dX6_pickIfThere_19 : decode cX6_pickIfThere 19 = .ok (.ifCond .ne 5, 3) := by decide +kernel
theorem dX6_pickIfThere_22 : decode cX6_pickIfThere 22 = .ok (.iconst (-1), 1) := by decide +kernel
theorem dX6_pickIfThere_23 : decode cX6_pickIfThere 23 = .ok (.ireturn, 1) := by decide +kernel
theorem dX6_pickIfThere_24 : decode cX6_pickIfThere 24 = .ok (.aload_n 0, 1) := by decide +kernel
theorem dX6_pickIfThere_25 : decode cX6_pickIfThere 25 = .ok (.getfield 36, 3) := by decide +kernel
theorem dX6_pickIfThere_28 : decode cX6_pickIfThere 28 = .ok (.iload_n 1, 1) := by decide +kernel
theorem dX6_pickIfThere_29 : decode cX6_pickIfThere 29 = .ok (.invokevirtual 212, 3) := by decide +kernel
theorem dX6_pickIfThere_32 : decode cX6_pickIfThere 32 = .ok (.istore_n 2, 1) := by decide +kernel
theorem dX6_pickIfThere_33 : decode cX6_pickIfThere 33 = .ok (.aload_n 0, 1) := by decide +kernel
theorem dX6_pickIfThere_34 : decode cX6_pickIfThere 34 = .ok (.getfield 10, 3) := by decide +kernel
theorem dX6_pickIfThere_37 : decode cX6_pickIfThere 37 = .ok (.iload_n 2, 1) := by decide +kernel
theorem dX6_pickIfThere_38 : decode cX6_pickIfThere 38 = .ok (.invokevirtual 132, 3) := by decide +kernel
theorem dX6_pickIfThere_41 : decode cX6_pickIfThere 41 = .ok (.ifCond .ne 5, 3) := by decide +kernel
theorem dX6_pickIfThere_44 : decode cX6_pickIfThere 44 = .ok (.iconst (-1), 1) := by decide +kernel
theorem dX6_pickIfThere_45 : decode cX6_pickIfThere 45 = .ok (.ireturn, 1) := by decide +kernel
theorem dX6_pickIfThere_46 : decode cX6_pickIfThere 46 = .ok (.aload_n 0, 1) := by decide +kernel
theorem dX6_pickIfThere_47 : decode cX6_pickIfThere 47 = .ok (.getfield 10, 3) := by decide +kernel
theorem dX6_pickIfThere_50 : decode cX6_pickIfThere 50 = .ok (.getfield 119, 3) := by decide +kernel
theorem dX6_pickIfThere_53 : decode cX6_pickIfThere 53 = .ok (.iload_n 2, 1) := by decide +kernel
theorem dX6_pickIfThere_54 : decode cX6_pickIfThere 54 = .ok (.aload_n 0, 1) := by decide +kernel
theorem dX6_pickIfThere_55 : decode cX6_pickIfThere 55 = .ok (.getfield 10, 3) := by decide +kernel
theorem dX6_pickIfThere_58 : decode cX6_pickIfThere 58 = .ok (.getfield 119, 3) := by decide +kernel
theorem dX6_pickIfThere_61 : decode cX6_pickIfThere 61 = .ok (.iload_n 2, 1) := by decide +kernel
theorem dX6_pickIfThere_62 : decode cX6_pickIfThere 62 = .ok (.invokevirtual 139, 3) := by decide +kernel
theorem dX6_pickIfThere_65 : decode cX6_pickIfThere 65 = .ok (.checkcast 142, 3) := by decide +kernel
theorem dX6_pickIfThere_68 : decode cX6_pickIfThere 68 = .ok (.invokevirtual 218, 3) := by decide +kernel
theorem dX6_pickIfThere_71 : decode cX6_pickIfThere 71 = .ok (.invokevirtual 221, 3) := by decide +kernel
theorem dX6_pickIfThere_74 : decode cX6_pickIfThere 74 = .ok (.pop, 1) := by decide +kernel
theorem dX6_pickIfThere_75 : decode cX6_pickIfThere 75 = .ok (.aload_n 0, 1) := by decide +kernel
theorem dX6_pickIfThere_76 : decode cX6_pickIfThere 76 = .ok (.getfield 10, 3) := by decide +kernel
theorem dX6_pickIfThere_79 : decode cX6_pickIfThere 79 = .ok (.iconst 0, 1) := by decide +kernel
theorem dX6_pickIfThere_80 : decode cX6_pickIfThere 80 = .ok (.putfield 110, 3) := by decide +kernel
theorem dX6_pickIfThere_83 : decode cX6_pickIfThere 83 = .ok (.iload_n 2, 1) := by decide +kernel
theorem dX6_pickIfThere_84 : decode cX6_pickIfThere 84 = .ok (.ireturn, 1) := by decide +kernel
