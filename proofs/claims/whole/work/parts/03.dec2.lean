theorem dX7_init_0 : decode cX7_init 0 = .ok (.aload_n 0, 1) := by decide +kernel
theorem dX7_init_1 : decode cX7_init 1 = .ok (.invokespecial 1, 3) := by decide +kernel
theorem dX7_init_4 : decode cX7_init 4 = .ok (.aload_n 0, 1) := by decide +kernel
theorem dX7_init_5 : decode cX7_init 5 = .ok (.sipush 444, 3) := by decide +kernel
theorem dX7_init_8 : decode cX7_init 8 = .ok (.newarray .int, 2) := by decide +kernel
theorem dX7_init_10 : decode cX7_init 10 = .ok (.putfield 7, 3) := by decide +kernel
theorem dX7_init_13 : decode cX7_init 13 = .ok (.aload_n 0, 1) := by decide +kernel
theorem dX7_init_14 : decode cX7_init 14 = .ok (.sipush 2664, 3) := by decide +kernel
theorem dX7_init_17 : decode cX7_init 17 = .ok (.newarray .int, 2) := by decide +kernel
theorem dX7_init_19 : decode cX7_init 19 = .ok (.putfield 13, 3) := by decide +kernel
theorem dX7_init_22 : decode cX7_init 22 = .ok (.aload_n 0, 1) := by decide +kernel
theorem dX7_init_23 : decode cX7_init 23 = .ok (.bipush 80, 2) := by decide +kernel
theorem dX7_init_25 : decode cX7_init 25 = .ok (.newarray .int, 2) := by decide +kernel
theorem dX7_init_27 : decode cX7_init 27 = .ok (.putfield 16, 3) := by decide +kernel
theorem dX7_init_30 : decode cX7_init 30 = .ok (.aload_n 0, 1) := by decide +kernel
theorem dX7_init_31 : decode cX7_init 31 = .ok (.sipush 384, 3) := by decide +kernel
theorem dX7_init_34 : decode cX7_init 34 = .ok (.newarray .int, 2) := by decide +kernel
theorem dX7_init_36 : decode cX7_init 36 = .ok (.putfield 19, 3) := by decide +kernel
theorem dX7_init_39 : decode cX7_init 39 = .ok (.aload_n 0, 1) := by decide +kernel
theorem dX7_init_40 : decode cX7_init 40 = .ok (.bipush 16, 2) := by decide +kernel
theorem dX7_init_42 : decode cX7_init 42 = .ok (.newarray .int, 2) := by decide +kernel
theorem dX7_init_44 : decode cX7_init 44 = .ok (.putfield 22, 3) := by decide +kernel
theorem dX7_init_47 : decode cX7_init 47 = .ok (.aload_n 0, 1) := by decide +kernel
theorem dX7_init_48 : decode cX7_init 48 = .ok (.bipush 24, 2) := by decide +kernel
theorem dX7_init_50 : decode cX7_init 50 = .ok (.newarray .int, 2) := by decide +kernel
theorem dX7_init_52 : decode cX7_init 52 = .ok (.putfield 25, 3) := by decide +kernel
theorem dX7_init_55 : decode cX7_init 55 = .ok (.aload_n 0, 1) := by decide +kernel
theorem dX7_init_56 : decode cX7_init 56 = .ok (.bipush 16, 2) := by decide +kernel
theorem dX7_init_58 : decode cX7_init 58 = .ok (.newarray .int, 2) := by decide +kernel
theorem dX7_init_60 : decode cX7_init 60 = .ok (.putfield 28, 3) := by decide +kernel
theorem dX7_init_63 : decode cX7_init 63 = .ok (.aload_n 0, 1) := by decide +kernel
theorem dX7_init_64 : decode cX7_init 64 = .ok (.bipush 16, 2) := by decide +kernel
theorem dX7_init_66 : decode cX7_init 66 = .ok (.newarray .int, 2) := by decide +kernel
theorem dX7_init_68 : decode cX7_init 68 = .ok (.putfield 31, 3) := by decide +kernel
theorem dX7_init_71 : decode cX7_init 71 = .ok (.aload_n 0, 1) := by decide +kernel
theorem dX7_init_72 : decode cX7_init 72 = .ok (.bipush 16, 2) := by decide +kernel
theorem dX7_init_74 : decode cX7_init 74 = .ok (.newarray .int, 2) := by decide +kernel
theorem dX7_init_76 : decode cX7_init 76 = .ok (.putfield 34, 3) := by decide +kernel
theorem dX7_init_79 : decode cX7_init 79 = .ok (.aload_n 0, 1) := by decide +kernel
theorem dX7_init_80 : decode cX7_init 80 = .ok (.bipush 16, 2) := by decide +kernel
theorem dX7_init_82 : decode cX7_init 82 = .ok (.newarray .int, 2) := by decide +kernel
theorem dX7_init_84 : decode cX7_init 84 = .ok (.putfield 37, 3) := by decide +kernel
theorem dX7_init_87 : decode cX7_init 87 = .ok (.aload_n 0, 1) := by decide +kernel
theorem dX7_init_88 : decode cX7_init 88 = .ok (.bipush 25, 2) := by decide +kernel
theorem dX7_init_90 : decode cX7_init 90 = .ok (.newarray .int, 2) := by decide +kernel
theorem dX7_init_92 : decode cX7_init 92 = .ok (.putfield 40, 3) := by decide +kernel
theorem dX7_init_95 : decode cX7_init 95 = .ok (.return_, 1) := by decide +kernel
theorem dX7_within_0 : decode cX7_within 0 = .ok (.iload_n 0, 1) := by decide +kernel
theorem dX7_within_1 : decode cX7_within 1 = .ok (.iload_n 1, 1) := by decide +kernel
theorem dX7_within_2 : decode cX7_within 2 = .ok (.if_icmp .lt 12, 3) := by decide +kernel
theorem dX7_within_5 : decode cX7_within 5 = .ok (.iload_n 0, 1) := by decide +kernel
theorem dX7_within_6 : decode cX7_within 6 = .ok (.iload_n 2, 1) := by decide +kernel
theorem dX7_within_7 : decode cX7_within 7 = .ok (.if_icmp .gt 7, 3) := by decide +kernel
theorem dX7_within_10 : decode cX7_within 10 = .ok (.iconst 1, 1) := by decide +kernel
theorem dX7_within_11 : decode cX7_within 11 = .ok (.goto 4, 3) := by decide +kernel
theorem dX7_within_14 : decode cX7_within 14 = .ok (.iconst 0, 1) := by decide +kernel
theorem dX7_within_15 : decode cX7_within 15 = .ok (.ireturn, 1) := by decide +kernel
theorem dX7_record_0 : decode cX7_record 0 = .ok (.aload_n 0, 1) := by decide +kernel
theorem dX7_record_1 : decode cX7_record 1 = .ok (.getfield 43, 3) := by decide +kernel
theorem dX7_record_4 : decode cX7_record 4 = .ok (.bipush 6, 2) := by decide +kernel
theorem dX7_record_6 : decode cX7_record 6 = .ok (.if_icmp .ne 44, 3) := by decide +kernel
theorem dX7_record_9 : decode cX7_record 9 = .ok (.iconst 0, 1) := by decide +kernel
theorem dX7_record_10 : decode cX7_record 10 = .ok (.istore_n 1, 1) := by decide +kernel
theorem dX7_record_11 : decode cX7_record 11 = .ok (.iload_n 1, 1) := by decide +kernel
theorem dX7_record_12 : decode cX7_record 12 = .ok (.sipush 2220, 3) := by decide +kernel
theorem dX7_record_15 : decode cX7_record 15 = .ok (.if_icmp .ge 25, 3) := by decide +kernel
theorem dX7_record_18 : decode cX7_record 18 = .ok (.aload_n 0, 1) := by decide +kernel
theorem dX7_record_19 : decode cX7_record 19 = .ok (.getfield 13, 3) := by decide +kernel
theorem dX7_record_22 : decode cX7_record 22 = .ok (.iload_n 1, 1) := by decide +kernel
theorem dX7_record_23 : decode cX7_record 23 = .ok (.aload_n 0, 1) := by decide +kernel
theorem dX7_record_24 : decode cX7_record 24 = .ok (.getfield 13, 3) := by decide +kernel
theorem dX7_record_27 : decode cX7_record 27 = .ok (.iload_n 1, 1) := by decide +kernel
theorem dX7_record_28 : decode cX7_record 28 = .ok (.sipush 444, 3) := by decide +kernel
theorem dX7_record_31 : decode cX7_record 31 = .ok (.iadd, 1) := by decide +kernel
theorem dX7_record_32 : decode cX7_record 32 = .ok (.iaload, 1) := by decide +kernel
theorem dX7_record_33 : decode cX7_record 33 = .ok (.iastore, 1) := by decide +kernel
theorem dX7_record_34 : decode cX7_record 34 = .ok (.iinc 1 1, 3) := by decide +kernel
theorem dX7_record_37 : decode cX7_record 37 = .ok (.goto (-26), 3) := by decide +kernel
theorem dX7_record_40 : decode cX7_record 40 = .ok (.aload_n 0, 1) := by decide +kernel
theorem dX7_record_41 : decode cX7_record 41 = .ok (.dup, 1) := by decide +kernel
theorem dX7_record_42 : decode cX7_record 42 = .ok (.getfield 43, 3) := by decide +kernel
theorem dX7_record_45 : decode cX7_record 45 = .ok (.iconst 1, 1) := by decide +kernel
theorem dX7_record_46 : decode cX7_record 46 = .ok (.isub, 1) := by decide +kernel
theorem dX7_record_47 : decode cX7_record 47 = .ok (.putfield 43, 3) := by decide +kernel
theorem dX7_record_50 : decode cX7_record 50 = .ok (.iconst 0, 1) := by decide +kernel
theorem dX7_record_51 : decode cX7_record 51 = .ok (.istore_n 1, 1) := by decide +kernel
theorem dX7_record_52 : decode cX7_record 52 = .ok (.iload_n 1, 1) := by decide +kernel
theorem dX7_record_53 : decode cX7_record 53 = .ok (.sipush 444, 3) := by decide +kernel
theorem dX7_record_56 : decode cX7_record 56 = .ok (.if_icmp .ge 30, 3) := by decide +kernel
theorem dX7_record_59 : decode cX7_record 59 = .ok (.aload_n 0, 1) := by decide +kernel
theorem dX7_record_60 : decode cX7_record 60 = .ok (.getfield 13, 3) := by decide +kernel
theorem dX7_record_63 : decode cX7_record 63 = .ok (.aload_n 0, 1) := by decide +kernel
theorem dX7_record_64 : decode cX7_record 64 = .ok (.getfield 43, 3) := by decide +kernel
theorem dX7_record_67 : decode cX7_record 67 = .ok (.sipush 444, 3) := by decide +kernel
theorem dX7_record_70 : decode cX7_record 70 = .ok (.imul, 1) := by decide +kernel
theorem dX7_record_71 : decode cX7_record 71 = .ok (.iload_n 1, 1) := by decide +kernel
theorem dX7_record_72 : decode cX7_record 72 = .ok (.iadd, 1) := by decide +kernel
theorem dX7_record_73 : decode cX7_record 73 = .ok (.aload_n 0, 1) := by decide +kernel
theorem dX7_record_74 : decode cX7_record 74 = .ok (.getfield 7, 3) := by decide +kernel
theorem dX7_record_77 : decode cX7_record 77 = .ok (.iload_n 1, 1) := by decide +kernel
theorem dX7_record_78 : decode cX7_record 78 = .ok (.iaload, 1) := by decide +kernel
theorem dX7_record_79 : decode cX7_record 79 = .ok (.iastore, 1) := by decide +kernel
theorem dX7_record_80 : decode cX7_record 80 = .ok (.iinc 1 1, 3) := by decide +kernel
theorem dX7_record_83 : decode cX7_record 83 = .ok (.goto (-31), 3) := by decide +kernel
theorem dX7_record_86 : decode cX7_record 86 = .ok (.aload_n 0, 1) := by decide +kernel
theorem dX7_record_87 : decode cX7_record 87 = .ok (.dup, 1) := by decide +kernel
theorem dX7_record_88 : decode cX7_record 88 = .ok (.getfield 43, 3) := by decide +kernel
theorem dX7_record_91 : decode cX7_record 91 = .ok (.iconst 1, 1) := by decide +kernel
theorem dX7_record_92 : decode cX7_record 92 = .ok (.iadd, 1) := by decide +kernel
theorem dX7_record_93 : decode cX7_record 93 = .ok (.putfield 43, 3) := by decide +kernel
theorem dX7_record_96 : decode cX7_record 96 = .ok (.return_, 1) := by decide +kernel
theorem dX7_isTitle_0 : decode cX7_isTitle 0 = .ok (.iload_n 1, 1) := by decide +kernel
theorem dX7_isTitle_1 : decode cX7_isTitle 1 = .ok (.iconst 0, 1) := by decide +kernel
theorem dX7_isTitle_2 : decode cX7_isTitle 2 = .ok (.aload_n 0, 1) := by decide +kernel
theorem dX7_isTitle_3 : decode cX7_isTitle 3 = .ok (.getfield 7, 3) := by decide +kernel
theorem dX7_isTitle_6 : decode cX7_isTitle 6 = .ok (.iconst 0, 1) := by decide +kernel
theorem dX7_isTitle_7 : decode cX7_isTitle 7 = .ok (.iaload, 1) := by decide +kernel
theorem dX7_isTitle_8 : decode cX7_isTitle 8 = .ok (.iconst 1, 1) := by decide +kernel
theorem dX7_isTitle_9 : decode cX7_isTitle 9 = .ok (.isub, 1) := by decide +kernel
theorem dX7_isTitle_10 : decode cX7_isTitle 10 = .ok (.invokestatic 47, 3) := by decide +kernel
theorem dX7_isTitle_13 : decode cX7_isTitle 13 = .ok (.ireturn, 1) := by decide +kernel
theorem dX7_part_0 : decode cX7_part 0 = .ok (.aload_n 0, 1) := by decide +kernel
theorem dX7_part_1 : decode cX7_part 1 = .ok (.getfield 7, 3) := by decide +kernel
theorem dX7_part_4 : decode cX7_part 4 = .ok (.bipush 28, 2) := by decide +kernel
theorem dX7_part_6 : decode cX7_part 6 = .ok (.bipush 26, 2) := by decide +kernel
theorem dX7_part_8 : decode cX7_part 8 = .ok (.iload_n 1, 1) := by decide +kernel
theorem dX7_part_9 : decode cX7_part 9 = .ok (.imul, 1) := by decide +kernel
theorem dX7_part_10 : decode cX7_part 10 = .ok (.iadd, 1) := by decide +kernel
theorem dX7_part_11 : decode cX7_part 11 = .ok (.iload_n 2, 1) := by decide +kernel
theorem dX7_part_12 : decode cX7_part 12 = .ok (.iadd, 1) := by decide +kernel
theorem dX7_part_13 : decode cX7_part 13 = .ok (.iaload, 1) := by decide +kernel
theorem dX7_part_14 : decode cX7_part 14 = .ok (.ireturn, 1) := by decide +kernel
theorem dX7_lengthOf_0 : decode cX7_lengthOf 0 = .ok (.aload_n 0, 1) := by decide +kernel
theorem dX7_lengthOf_1 : decode cX7_lengthOf 1 = .ok (.iload_n 1, 1) := by decide +kernel
theorem dX7_lengthOf_2 : decode cX7_lengthOf 2 = .ok (.iconst 0, 1) := by decide +kernel
theorem dX7_lengthOf_3 : decode cX7_lengthOf 3 = .ok (.invokevirtual 51, 3) := by decide +kernel
theorem dX7_lengthOf_6 : decode cX7_lengthOf 6 = .ok (.ireturn, 1) := by decide +kernel
theorem dX7_characterOf_0 : decode cX7_characterOf 0 = .ok (.aload_n 0, 1) := by decide +kernel
theorem dX7_characterOf_1 : decode cX7_characterOf 1 = .ok (.iload_n 1, 1) := by decide +kernel
theorem dX7_characterOf_2 : decode cX7_characterOf 2 = .ok (.iconst 2, 1) := by decide +kernel
theorem dX7_characterOf_3 : decode cX7_characterOf 3 = .ok (.iload_n 2, 1) := by decide +kernel
theorem dX7_characterOf_4 : decode cX7_characterOf 4 = .ok (.iadd, 1) := by decide +kernel
theorem dX7_characterOf_5 : decode cX7_characterOf 5 = .ok (.invokevirtual 51, 3) := by decide +kernel
theorem dX7_characterOf_8 : decode cX7_characterOf 8 = .ok (.ireturn, 1) := by decide +kernel
theorem dX7_isLetter_0 : decode cX7_isLetter 0 = .ok (.iload_n 0, 1) := by decide +kernel
theorem dX7_isLetter_1 : decode cX7_isLetter 1 = .ok (.bipush 97, 2) := by decide +kernel
theorem dX7_isLetter_3 : decode cX7_isLetter 3 = .ok (.bipush 122, 2) := by decide +kernel
theorem dX7_isLetter_5 : decode cX7_isLetter 5 = .ok (.invokestatic 47, 3) := by decide +kernel
theorem dX7_isLetter_8 : decode cX7_isLetter 8 = .ok (.ifCond .ne 14, 3) := by decide +kernel
theorem dX7_isLetter_11 : decode cX7_isLetter 11 = .ok (.iload_n 0, 1) := by decide +kernel
theorem dX7_isLetter_12 : decode cX7_isLetter 12 = .ok (.bipush 48, 2) := by decide +kernel
theorem dX7_isLetter_14 : decode cX7_isLetter 14 = .ok (.bipush 57, 2) := by decide +kernel
theorem dX7_isLetter_16 : decode cX7_isLetter 16 = .ok (.invokestatic 47, 3) := by decide +kernel
theorem dX7_isLetter_19 : decode cX7_isLetter 19 = .ok (.ifCond .eq 7, 3) := by decide +kernel
theorem dX7_isLetter_22 : decode cX7_isLetter 22 = .ok (.iconst 1, 1) := by decide +kernel
theorem dX7_isLetter_23 : decode cX7_isLetter 23 = .ok (.goto 4, 3) := by decide +kernel
theorem dX7_isLetter_26 : decode cX7_isLetter 26 = .ok (.iconst 0, 1) := by decide +kernel
theorem dX7_isLetter_27 : decode cX7_isLetter 27 = .ok (.ireturn, 1) := by decide +kernel
theorem dX7_beginsWord_0 : decode cX7_beginsWord 0 = .ok (.aload_n 0, 1) := by decide +kernel
theorem dX7_beginsWord_1 : decode cX7_beginsWord 1 = .ok (.iload_n 1, 1) := by decide +kernel
theorem dX7_beginsWord_2 : decode cX7_beginsWord 2 = .ok (.iload_n 2, 1) := by decide +kernel
theorem dX7_beginsWord_3 : decode cX7_beginsWord 3 = .ok (.invokevirtual 55, 3) := by decide +kernel
theorem dX7_beginsWord_6 : decode cX7_beginsWord 6 = .ok (.bipush 32, 2) := by decide +kernel
theorem dX7_beginsWord_8 : decode cX7_beginsWord 8 = .ok (.if_icmp .eq 24, 3) := by decide +kernel
theorem dX7_beginsWord_11 : decode cX7_beginsWord 11 = .ok (.iload_n 2, 1) := by decide +kernel
theorem dX7_beginsWord_12 : decode cX7_beginsWord 12 = .ok (.ifCond .eq 16, 3) := by decide +kernel
theorem dX7_beginsWord_15 : decode cX7_beginsWord 15 = .ok (.aload_n 0, 1) := by decide +kernel
theorem dX7_beginsWord_16 : decode cX7_beginsWord 16 = .ok (.iload_n 1, 1) := by decide +kernel
theorem dX7_beginsWord_17 : decode cX7_beginsWord 17 = .ok (.iload_n 2, 1) := by decide +kernel
theorem dX7_beginsWord_18 : decode cX7_beginsWord 18 = .ok (.iconst 1, 1) := by decide +kernel
theorem dX7_beginsWord_19 : decode cX7_beginsWord 19 = .ok (.isub, 1) := by decide +kernel
theorem dX7_beginsWord_20 : decode cX7_beginsWord 20 = .ok (.invokevirtual 55, 3) := by decide +kernel
theorem dX7_beginsWord_23 : decode cX7_beginsWord 23 = .ok (.bipush 32, 2) := by decide +kernel
theorem dX7_beginsWord_25 : decode cX7_beginsWord 25 = .ok (.if_icmp .ne 7, 3) := by decide +kernel
theorem dX7_beginsWord_28 : decode cX7_beginsWord 28 = .ok (.iconst 1, 1) := by decide +kernel
theorem dX7_beginsWord_29 : decode cX7_beginsWord 29 = .ok (.goto 4, 3) := by decide +kernel
theorem dX7_beginsWord_32 : decode cX7_beginsWord 32 = .ok (.iconst 0, 1) := by decide +kernel
theorem dX7_beginsWord_33 : decode cX7_beginsWord 33 = .ok (.ireturn, 1) := by decide +kernel
theorem dX7_findSources_0 : decode cX7_findSources 0 = .ok (.iconst 0, 1) := by decide +kernel
theorem dX7_findSources_1 : decode cX7_findSources 1 = .ok (.istore_n 1, 1) := by decide +kernel
theorem dX7_findSources_2 : decode cX7_findSources 2 = .ok (.iload_n 1, 1) := by decide +kernel
theorem dX7_findSources_3 : decode cX7_findSources 3 = .ok (.aload_n 0, 1) := by decide +kernel
theorem dX7_findSources_4 : decode cX7_findSources 4 = .ok (.getfield 7, 3) := by decide +kernel
theorem dX7_findSources_7 : decode cX7_findSources 7 = .ok (.iconst 0, 1) := by decide +kernel
theorem dX7_findSources_8 : decode cX7_findSources 8 = .ok (.iaload, 1) := by decide +kernel
theorem dX7_findSources_9 : decode cX7_findSources 9 = .ok (.if_icmp .ge 74, 3) := by decide +kernel
theorem dX7_findSources_12 : decode cX7_findSources 12 = .ok (.iconst 0, 1) := by decide +kernel
theorem dX7_findSources_13 : decode cX7_findSources 13 = .ok (.istore_n 2, 1) := by decide +kernel
theorem dX7_findSources_14 : decode cX7_findSources 14 = .ok (.iconst 0, 1) := by decide +kernel
theorem dX7_findSources_15 : decode cX7_findSources 15 = .ok (.istore_n 3, 1) := by decide +kernel
theorem dX7_findSources_16 : decode cX7_findSources 16 = .ok (.iload_n 3, 1) := by decide +kernel
theorem dX7_findSources_17 : decode cX7_findSources 17 = .ok (.aload_n 0, 1) := by decide +kernel
theorem dX7_findSources_18 : decode cX7_findSources 18 = .ok (.iload_n 1, 1) := by decide +kernel
theorem dX7_findSources_19 : decode cX7_findSources 19 = .ok (.invokevirtual 58, 3) := by decide +kernel
theorem dX7_findSources_22 : decode cX7_findSources 22 = .ok (.if_icmp .ge 48, 3) := by decide +kernel
theorem dX7_findSources_25 : decode cX7_findSources 25 = .ok (.aload_n 0, 1) := by decide +kernel
theorem dX7_findSources_26 : decode cX7_findSources 26 = .ok (.getfield 7, 3) := by decide +kernel
theorem dX7_findSources_29 : decode cX7_findSources 29 = .ok (.iconst 1, 1) := by decide +kernel
theorem dX7_findSources_30 : decode cX7_findSources 30 = .ok (.iaload, 1) := by decide +kernel
theorem dX7_findSources_31 : decode cX7_findSources 31 = .ok (.iconst 3, 1) := by decide +kernel
theorem dX7_findSources_32 : decode cX7_findSources 32 = .ok (.if_icmp .ne 12, 3) := by decide +kernel
theorem dX7_findSources_35 : decode cX7_findSources 35 = .ok (.aload_n 0, 1) := by decide +kernel
theorem dX7_findSources_36 : decode cX7_findSources 36 = .ok (.iload_n 1, 1) := by decide +kernel
theorem dX7_findSources_37 : decode cX7_findSources 37 = .ok (.iload_n 3, 1) := by decide +kernel
theorem dX7_findSources_38 : decode cX7_findSources 38 = .ok (.invokevirtual 62, 3) := by decide +kernel
theorem dX7_findSources_41 : decode cX7_findSources 41 = .ok (.ifCond .eq 23, 3) := by decide +kernel
theorem dX7_findSources_44 : decode cX7_findSources 44 = .ok (.aload_n 0, 1) := by decide +kernel
theorem dX7_findSources_45 : decode cX7_findSources 45 = .ok (.getfield 19, 3) := by decide +kernel
theorem dX7_findSources_48 : decode cX7_findSources 48 = .ok (.bipush 24, 2) := by decide +kernel
theorem dX7_findSources_50 : decode cX7_findSources 50 = .ok (.iload_n 1, 1) := by decide +kernel
theorem dX7_findSources_51 : decode cX7_findSources 51 = .ok (.imul, 1) := by decide +kernel
theorem dX7_findSources_52 : decode cX7_findSources 52 = .ok (.iload_n 2, 1) := by decide +kernel
theorem dX7_findSources_53 : decode cX7_findSources 53 = .ok (.iadd, 1) := by decide +kernel
theorem dX7_findSources_54 : decode cX7_findSources 54 = .ok (.aload_n 0, 1) := by decide +kernel
theorem dX7_findSources_55 : decode cX7_findSources 55 = .ok (.iload_n 1, 1) := by decide +kernel
theorem dX7_findSources_56 : decode cX7_findSources 56 = .ok (.iload_n 3, 1) := by decide +kernel
theorem dX7_findSources_57 : decode cX7_findSources 57 = .ok (.invokevirtual 55, 3) := by decide +kernel
theorem dX7_findSources_60 : decode cX7_findSources 60 = .ok (.iastore, 1) := by decide +kernel
theorem dX7_findSources_61 : decode cX7_findSources 61 = .ok (.iinc 2 1, 3) := by decide +kernel
theorem dX7_findSources_64 : decode cX7_findSources 64 = .ok (.iinc 3 1, 3) := by decide +kernel
theorem dX7_findSources_67 : decode cX7_findSources 67 = .ok (.goto (-51), 3) := by decide +kernel
theorem dX7_findSources_70 : decode cX7_findSources 70 = .ok (.aload_n 0, 1) := by decide +kernel
theorem dX7_findSources_71 : decode cX7_findSources 71 = .ok (.getfield 22, 3) := by decide +kernel
theorem dX7_findSources_74 : decode cX7_findSources 74 = .ok (.iload_n 1, 1) := by decide +kernel
theorem dX7_findSources_75 : decode cX7_findSources 75 = .ok (.iload_n 2, 1) := by decide +kernel
theorem dX7_findSources_76 : decode cX7_findSources 76 = .ok (.iastore, 1) := by decide +kernel
theorem dX7_findSources_77 : decode cX7_findSources 77 = .ok (.iinc 1 1, 3) := by decide +kernel
theorem dX7_findSources_80 : decode cX7_findSources 80 = .ok (.goto (-78), 3) := by decide +kernel
theorem dX7_findSources_83 : decode cX7_findSources 83 = .ok (.return_, 1) := by decide +kernel
theorem dX7_sourceAt_0 : decode cX7_sourceAt 0 = .ok (.aload_n 0, 1) := by decide +kernel
theorem dX7_sourceAt_1 : decode cX7_sourceAt 1 = .ok (.getfield 19, 3) := by decide +kernel
theorem dX7_sourceAt_4 : decode cX7_sourceAt 4 = .ok (.bipush 24, 2) := by decide +kernel
theorem dX7_sourceAt_6 : decode cX7_sourceAt 6 = .ok (.iload_n 1, 1) := by decide +kernel
theorem dX7_sourceAt_7 : decode cX7_sourceAt 7 = .ok (.imul, 1) := by decide +kernel
theorem dX7_sourceAt_8 : decode cX7_sourceAt 8 = .ok (.iload_n 2, 1) := by decide +kernel
theorem dX7_sourceAt_9 : decode cX7_sourceAt 9 = .ok (.iadd, 1) := by decide +kernel
theorem dX7_sourceAt_10 : decode cX7_sourceAt 10 = .ok (.iaload, 1) := by decide +kernel
theorem dX7_sourceAt_11 : decode cX7_sourceAt 11 = .ok (.ireturn, 1) := by decide +kernel
theorem dX7_canStart_0 : decode cX7_canStart 0 = .ok (.aload_n 0, 1) := by decide +kernel
theorem dX7_canStart_1 : decode cX7_canStart 1 = .ok (.getfield 7, 3) := by decide +kernel
theorem dX7_canStart_4 : decode cX7_canStart 4 = .ok (.iconst 1, 1) := by decide +kernel
theorem dX7_canStart_5 : decode cX7_canStart 5 = .ok (.iaload, 1) := by decide +kernel
theorem dX7_canStart_6 : decode cX7_canStart 6 = .ok (.tableswitch 60 0 2 #[26, 43, 53], 26) := by decide +kernel
theorem dX7_canStart_32 : decode cX7_canStart 32 = .ok (.aload_n 0, 1) := by decide +kernel
theorem dX7_canStart_33 : decode cX7_canStart 33 = .ok (.iload_n 1, 1) := by decide +kernel
theorem dX7_canStart_34 : decode cX7_canStart 34 = .ok (.iload_n 2, 1) := by decide +kernel
theorem dX7_canStart_35 : decode cX7_canStart 35 = .ok (.invokevirtual 66, 3) := by decide +kernel
theorem dX7_canStart_38 : decode cX7_canStart 38 = .ok (.bipush 32, 2) := by decide +kernel
theorem dX7_canStart_40 : decode cX7_canStart 40 = .ok (.if_icmp .eq 7, 3) := by decide +kernel
theorem dX7_canStart_43 : decode cX7_canStart 43 = .ok (.iconst 1, 1) := by decide +kernel
theorem dX7_canStart_44 : decode cX7_canStart 44 = .ok (.goto 4, 3) := by decide +kernel
theorem dX7_canStart_47 : decode cX7_canStart 47 = .ok (.iconst 0, 1) := by decide +kernel
theorem dX7_canStart_48 : decode cX7_canStart 48 = .ok (.ireturn, 1) := by decide +kernel
theorem dX7_canStart_49 : decode cX7_canStart 49 = .ok (.iload_n 2, 1) := by decide +kernel
theorem dX7_canStart_50 : decode cX7_canStart 50 = .ok (.ifCond .ne 7, 3) := by decide +kernel
theorem dX7_canStart_53 : decode cX7_canStart 53 = .ok (.iconst 1, 1) := by decide +kernel
theorem dX7_canStart_54 : decode cX7_canStart 54 = .ok (.goto 4, 3) := by decide +kernel
theorem dX7_canStart_57 : decode cX7_canStart 57 = .ok (.iconst 0, 1) := by decide +kernel
theorem dX7_canStart_58 : decode cX7_canStart 58 = .ok (.ireturn, 1) := by decide +kernel
theorem dX7_canStart_59 : decode cX7_canStart 59 = .ok (.aload_n 0, 1) := by decide +kernel
theorem dX7_canStart_60 : decode cX7_canStart 60 = .ok (.iload_n 1, 1) := by decide +kernel
theorem dX7_canStart_61 : decode cX7_canStart 61 = .ok (.iload_n 2, 1) := by decide +kernel
theorem dX7_canStart_62 : decode cX7_canStart 62 = .ok (.invokevirtual 62, 3) := by decide +kernel
theorem dX7_canStart_65 : decode cX7_canStart 65 = .ok (.ireturn, 1) := by decide +kernel
theorem dX7_canStart_66 : decode cX7_canStart 66 = .ok (.iconst 1, 1) := by decide +kernel
theorem dX7_canStart_67 : decode cX7_canStart 67 = .ok (.ireturn, 1) := by decide +kernel
theorem dX7_isPiece_0 : decode cX7_isPiece 0 = .ok (.iload_n 2, 1) := by decide +kernel
theorem dX7_isPiece_1 : decode cX7_isPiece 1 = .ok (.iload_n 3, 1) := by decide +kernel
theorem dX7_isPiece_2 : decode cX7_isPiece 2 = .ok (.iadd, 1) := by decide +kernel
theorem dX7_isPiece_3 : decode cX7_isPiece 3 = .ok (.aload_n 0, 1) := by decide +kernel
theorem dX7_isPiece_4 : decode cX7_isPiece 4 = .ok (.getfield 22, 3) := by decide +kernel
theorem dX7_isPiece_7 : decode cX7_isPiece 7 = .ok (.iload_n 1, 1) := by decide +kernel
theorem dX7_isPiece_8 : decode cX7_isPiece 8 = .ok (.iaload, 1) := by decide +kernel
theorem dX7_isPiece_9 : decode cX7_isPiece 9 = .ok (.if_icmp .gt 31, 3) := by decide +kernel
theorem dX7_isPiece_12 : decode cX7_isPiece 12 = .ok (.aload_n 0, 1) := by decide +kernel
theorem dX7_isPiece_13 : decode cX7_isPiece 13 = .ok (.iload_n 1, 1) := by decide +kernel
theorem dX7_isPiece_14 : decode cX7_isPiece 14 = .ok (.iload_n 2, 1) := by decide +kernel
theorem dX7_isPiece_15 : decode cX7_isPiece 15 = .ok (.invokevirtual 69, 3) := by decide +kernel
theorem dX7_isPiece_18 : decode cX7_isPiece 18 = .ok (.ifCond .eq 22, 3) := by decide +kernel
theorem dX7_isPiece_21 : decode cX7_isPiece 21 = .ok (.aload_n 0, 1) := by decide +kernel
theorem dX7_isPiece_22 : decode cX7_isPiece 22 = .ok (.iload_n 1, 1) := by decide +kernel
theorem dX7_isPiece_23 : decode cX7_isPiece 23 = .ok (.iload_n 2, 1) := by decide +kernel
theorem dX7_isPiece_24 : decode cX7_isPiece 24 = .ok (.iload_n 3, 1) := by decide +kernel
theorem dX7_isPiece_25 : decode cX7_isPiece 25 = .ok (.iadd, 1) := by decide +kernel
theorem dX7_isPiece_26 : decode cX7_isPiece 26 = .ok (.iconst 1, 1) := by decide +kernel
theorem dX7_isPiece_27 : decode cX7_isPiece 27 = .ok (.isub, 1) := by decide +kernel
theorem dX7_isPiece_28 : decode cX7_isPiece 28 = .ok (.invokevirtual 66, 3) := by decide +kernel
theorem dX7_isPiece_31 : decode cX7_isPiece 31 = .ok (.bipush 32, 2) := by decide +kernel
theorem dX7_isPiece_33 : decode cX7_isPiece 33 = .ok (.if_icmp .eq 7, 3) := by decide +kernel
theorem dX7_isPiece_36 : decode cX7_isPiece 36 = .ok (.iconst 1, 1) := by decide +kernel
theorem dX7_isPiece_37 : decode cX7_isPiece 37 = .ok (.goto 4, 3) := by decide +kernel
theorem dX7_isPiece_40 : decode cX7_isPiece 40 = .ok (.iconst 0, 1) := by decide +kernel
theorem dX7_isPiece_41 : decode cX7_isPiece 41 = .ok (.ireturn, 1) := by decide +kernel
theorem dX7_asks_0 : decode cX7_asks 0 = .ok (.aload_n 0, 1) := by decide +kernel
theorem dX7_asks_1 : decode cX7_asks 1 = .ok (.iload_n 3, 1) := by decide +kernel
theorem dX7_asks_2 : decode cX7_asks 2 = .ok (.putfield 72, 3) := by decide +kernel
theorem dX7_asks_5 : decode cX7_asks 5 = .ok (.iconst 0, 1) := by decide +kernel
theorem dX7_asks_6 : decode cX7_asks 6 = .ok (.istore 4, 2) := by decide +kernel
theorem dX7_asks_8 : decode cX7_asks 8 = .ok (.iload 4, 2) := by decide +kernel
theorem dX7_asks_10 : decode cX7_asks 10 = .ok (.iload_n 3, 1) := by decide +kernel
theorem dX7_asks_11 : decode cX7_asks 11 = .ok (.if_icmp .ge 25, 3) := by decide +kernel
theorem dX7_asks_14 : decode cX7_asks 14 = .ok (.aload_n 0, 1) := by decide +kernel
theorem dX7_asks_15 : decode cX7_asks 15 = .ok (.getfield 25, 3) := by decide +kernel
theorem dX7_asks_18 : decode cX7_asks 18 = .ok (.iload 4, 2) := by decide +kernel
theorem dX7_asks_20 : decode cX7_asks 20 = .ok (.aload_n 0, 1) := by decide +kernel
theorem dX7_asks_21 : decode cX7_asks 21 = .ok (.iload_n 1, 1) := by decide +kernel
theorem dX7_asks_22 : decode cX7_asks 22 = .ok (.iload_n 2, 1) := by decide +kernel
theorem dX7_asks_23 : decode cX7_asks 23 = .ok (.iload 4, 2) := by decide +kernel
theorem dX7_asks_25 : decode cX7_asks 25 = .ok (.iadd, 1) := by decide +kernel
theorem dX7_asks_26 : decode cX7_asks 26 = .ok (.invokevirtual 66, 3) := by decide +kernel
theorem dX7_asks_29 : decode cX7_asks 29 = .ok (.iastore, 1) := by decide +kernel
theorem dX7_asks_30 : decode cX7_asks 30 = .ok (.iinc 4 1, 3) := by decide +kernel
theorem dX7_asks_33 : decode cX7_asks 33 = .ok (.goto (-25), 3) := by decide +kernel
theorem dX7_asks_36 : decode cX7_asks 36 = .ok (.return_, 1) := by decide +kernel
theorem dX7_placeIn_0 : decode cX7_placeIn 0 = .ok (.iconst 0, 1) := by decide +kernel
theorem dX7_placeIn_1 : decode cX7_placeIn 1 = .ok (.istore_n 2, 1) := by decide +kernel
theorem dX7_placeIn_2 : decode cX7_placeIn 2 = .ok (.iload_n 2, 1) := by decide +kernel
theorem dX7_placeIn_3 : decode cX7_placeIn 3 = .ok (.aload_n 0, 1) := by decide +kernel
theorem dX7_placeIn_4 : decode cX7_placeIn 4 = .ok (.getfield 72, 3) := by decide +kernel
theorem dX7_placeIn_7 : decode cX7_placeIn 7 = .ok (.iadd, 1) := by decide +kernel
theorem dX7_placeIn_8 : decode cX7_placeIn 8 = .ok (.aload_n 0, 1) := by decide +kernel
theorem dX7_placeIn_9 : decode cX7_placeIn 9 = .ok (.getfield 22, 3) := by decide +kernel
theorem dX7_placeIn_12 : decode cX7_placeIn 12 = .ok (.iload_n 1, 1) := by decide +kernel
theorem dX7_placeIn_13 : decode cX7_placeIn 13 = .ok (.iaload, 1) := by decide +kernel
theorem dX7_placeIn_14 : decode cX7_placeIn 14 = .ok (.if_icmp .gt 73, 3) := by decide +kernel
theorem dX7_placeIn_17 : decode cX7_placeIn 17 = .ok (.aload_n 0, 1) := by decide +kernel
theorem dX7_placeIn_18 : decode cX7_placeIn 18 = .ok (.iload_n 1, 1) := by decide +kernel
theorem dX7_placeIn_19 : decode cX7_placeIn 19 = .ok (.iload_n 2, 1) := by decide +kernel
theorem dX7_placeIn_20 : decode cX7_placeIn 20 = .ok (.aload_n 0, 1) := by decide +kernel
theorem dX7_placeIn_21 : decode cX7_placeIn 21 = .ok (.getfield 72, 3) := by decide +kernel
theorem dX7_placeIn_24 : decode cX7_placeIn 24 = .ok (.invokevirtual 75, 3) := by decide +kernel
theorem dX7_placeIn_27 : decode cX7_placeIn 27 = .ok (.istore_n 3, 1) := by decide +kernel
theorem dX7_placeIn_28 : decode cX7_placeIn 28 = .ok (.iconst 0, 1) := by decide +kernel
theorem dX7_placeIn_29 : decode cX7_placeIn 29 = .ok (.istore 4, 2) := by decide +kernel
theorem dX7_placeIn_31 : decode cX7_placeIn 31 = .ok (.iload 4, 2) := by decide +kernel
theorem dX7_placeIn_33 : decode cX7_placeIn 33 = .ok (.aload_n 0, 1) := by decide +kernel
theorem dX7_placeIn_34 : decode cX7_placeIn 34 = .ok (.getfield 72, 3) := by decide +kernel
theorem dX7_placeIn_37 : decode cX7_placeIn 37 = .ok (.if_icmp .ge 38, 3) := by decide +kernel
theorem dX7_placeIn_40 : decode cX7_placeIn 40 = .ok (.iload_n 3, 1) := by decide +kernel
theorem dX7_placeIn_41 : decode cX7_placeIn 41 = .ok (.ifCond .eq 34, 3) := by decide +kernel
theorem dX7_placeIn_44 : decode cX7_placeIn 44 = .ok (.aload_n 0, 1) := by decide +kernel
theorem dX7_placeIn_45 : decode cX7_placeIn 45 = .ok (.iload_n 1, 1) := by decide +kernel
theorem dX7_placeIn_46 : decode cX7_placeIn 46 = .ok (.iload_n 2, 1) := by decide +kernel
theorem dX7_placeIn_47 : decode cX7_placeIn 47 = .ok (.iload 4, 2) := by decide +kernel
theorem dX7_placeIn_49 : decode cX7_placeIn 49 = .ok (.iadd, 1) := by decide +kernel
theorem dX7_placeIn_50 : decode cX7_placeIn 50 = .ok (.invokevirtual 66, 3) := by decide +kernel
theorem dX7_placeIn_53 : decode cX7_placeIn 53 = .ok (.aload_n 0, 1) := by decide +kernel
theorem dX7_placeIn_54 : decode cX7_placeIn 54 = .ok (.getfield 25, 3) := by decide +kernel
theorem dX7_placeIn_57 : decode cX7_placeIn 57 = .ok (.iload 4, 2) := by decide +kernel
theorem dX7_placeIn_59 : decode cX7_placeIn 59 = .ok (.iaload, 1) := by decide +kernel
theorem dX7_placeIn_60 : decode cX7_placeIn 60 = .ok (.if_icmp .ne 7, 3) := by decide +kernel
theorem dX7_placeIn_63 : decode cX7_placeIn 63 = .ok (.iconst 1, 1) := by decide +kernel
theorem dX7_placeIn_64 : decode cX7_placeIn 64 = .ok (.goto 4, 3) := by decide +kernel
theorem dX7_placeIn_67 : decode cX7_placeIn 67 = .ok (.iconst 0, 1) := by decide +kernel
theorem dX7_placeIn_68 : decode cX7_placeIn 68 = .ok (.istore_n 3, 1) := by decide +kernel
theorem dX7_placeIn_69 : decode cX7_placeIn 69 = .ok (.iinc 4 1, 3) := by decide +kernel
theorem dX7_placeIn_72 : decode cX7_placeIn 72 = .ok (.goto (-41), 3) := by decide +kernel
theorem dX7_placeIn_75 : decode cX7_placeIn 75 = .ok (.iload_n 3, 1) := by decide +kernel
theorem dX7_placeIn_76 : decode cX7_placeIn 76 = .ok (.ifCond .eq 5, 3) := by decide +kernel
theorem dX7_placeIn_79 : decode cX7_placeIn 79 = .ok (.iload_n 2, 1) := by decide +kernel
theorem dX7_placeIn_80 : decode cX7_placeIn 80 = .ok (.ireturn, 1) := by decide +kernel
theorem dX7_placeIn_81 : decode cX7_placeIn 81 = .ok (.iinc 2 1, 3) := by decide +kernel
theorem dX7_placeIn_84 : decode cX7_placeIn 84 = .ok (.goto (-82), 3) := by decide +kernel
theorem dX7_placeIn_87 : decode cX7_placeIn 87 = .ok (.bipush (-6), 2) := by decide +kernel
theorem dX7_placeIn_89 : decode cX7_placeIn 89 = .ok (.ireturn, 1) := by decide +kernel
theorem dX7_isAheadByName_0 : decode cX7_isAheadByName 0 = .ok (.iconst 0, 1) := by decide +kernel
theorem dX7_isAheadByName_1 : decode cX7_isAheadByName 1 = .ok (.istore_n 3, 1) := by decide +kernel
theorem dX7_isAheadByName_2 : decode cX7_isAheadByName 2 = .ok (.iload_n 3, 1) := by decide +kernel
theorem dX7_isAheadByName_3 : decode cX7_isAheadByName 3 = .ok (.aload_n 0, 1) := by decide +kernel
theorem dX7_isAheadByName_4 : decode cX7_isAheadByName 4 = .ok (.iload_n 1, 1) := by decide +kernel
theorem dX7_isAheadByName_5 : decode cX7_isAheadByName 5 = .ok (.invokevirtual 58, 3) := by decide +kernel
theorem dX7_isAheadByName_8 : decode cX7_isAheadByName 8 = .ok (.if_icmp .ge 33, 3) := by decide +kernel
theorem dX7_isAheadByName_11 : decode cX7_isAheadByName 11 = .ok (.iload_n 3, 1) := by decide +kernel
theorem dX7_isAheadByName_12 : decode cX7_isAheadByName 12 = .ok (.aload_n 0, 1) := by decide +kernel
theorem dX7_isAheadByName_13 : decode cX7_isAheadByName 13 = .ok (.iload_n 2, 1) := by decide +kernel
theorem dX7_isAheadByName_14 : decode cX7_isAheadByName 14 = .ok (.invokevirtual 58, 3) := by decide +kernel
theorem dX7_isAheadByName_17 : decode cX7_isAheadByName 17 = .ok (.if_icmp .ge 24, 3) := by decide +kernel
theorem dX7_isAheadByName_20 : decode cX7_isAheadByName 20 = .ok (.aload_n 0, 1) := by decide +kernel
theorem dX7_isAheadByName_21 : decode cX7_isAheadByName 21 = .ok (.iload_n 1, 1) := by decide +kernel
theorem dX7_isAheadByName_22 : decode cX7_isAheadByName 22 = .ok (.iload_n 3, 1) := by decide +kernel
theorem dX7_isAheadByName_23 : decode cX7_isAheadByName 23 = .ok (.invokevirtual 55, 3) := by decide +kernel
theorem dX7_isAheadByName_26 : decode cX7_isAheadByName 26 = .ok (.aload_n 0, 1) := by decide +kernel
theorem dX7_isAheadByName_27 : decode cX7_isAheadByName 27 = .ok (.iload_n 2, 1) := by decide +kernel
theorem dX7_isAheadByName_28 : decode cX7_isAheadByName 28 = .ok (.iload_n 3, 1) := by decide +kernel
theorem dX7_isAheadByName_29 : decode cX7_isAheadByName 29 = .ok (.invokevirtual 55, 3) := by decide +kernel
theorem dX7_isAheadByName_32 : decode cX7_isAheadByName 32 = .ok (.if_icmp .ne 9, 3) := by decide +kernel
theorem dX7_isAheadByName_35 : decode cX7_isAheadByName 35 = .ok (.iinc 3 1, 3) := by decide +kernel
theorem dX7_isAheadByName_38 : decode cX7_isAheadByName 38 = .ok (.goto (-36), 3) := by decide +kernel
theorem dX7_isAheadByName_41 : decode cX7_isAheadByName 41 = .ok (.iload_n 3, 1) := by decide +kernel
theorem dX7_isAheadByName_42 : decode cX7_isAheadByName 42 = .ok (.aload_n 0, 1) := by decide +kernel
theorem dX7_isAheadByName_43 : decode cX7_isAheadByName 43 = .ok (.iload_n 1, 1) := by decide +kernel
theorem dX7_isAheadByName_44 : decode cX7_isAheadByName 44 = .ok (.invokevirtual 58, 3) := by decide +kernel
theorem dX7_isAheadByName_47 : decode cX7_isAheadByName 47 = .ok (.if_icmp .eq 27, 3) := by decide +kernel
theorem dX7_isAheadByName_50 : decode cX7_isAheadByName 50 = .ok (.iload_n 3, 1) := by decide +kernel
theorem dX7_isAheadByName_51 : decode cX7_isAheadByName 51 = .ok (.aload_n 0, 1) := by decide +kernel
theorem dX7_isAheadByName_52 : decode cX7_isAheadByName 52 = .ok (.iload_n 2, 1) := by decide +kernel
theorem dX7_isAheadByName_53 : decode cX7_isAheadByName 53 = .ok (.invokevirtual 58, 3) := by decide +kernel
theorem dX7_isAheadByName_56 : decode cX7_isAheadByName 56 = .ok (.if_icmp .ge 22, 3) := by decide +kernel
theorem dX7_isAheadByName_59 : decode cX7_isAheadByName 59 = .ok (.aload_n 0, 1) := by decide +kernel
theorem dX7_isAheadByName_60 : decode cX7_isAheadByName 60 = .ok (.iload_n 1, 1) := by decide +kernel
theorem dX7_isAheadByName_61 : decode cX7_isAheadByName 61 = .ok (.iload_n 3, 1) := by decide +kernel
theorem dX7_isAheadByName_62 : decode cX7_isAheadByName 62 = .ok (.invokevirtual 55, 3) := by decide +kernel
theorem dX7_isAheadByName_65 : decode cX7_isAheadByName 65 = .ok (.aload_n 0, 1) := by decide +kernel
theorem dX7_isAheadByName_66 : decode cX7_isAheadByName 66 = .ok (.iload_n 2, 1) := by decide +kernel
theorem dX7_isAheadByName_67 : decode cX7_isAheadByName 67 = .ok (.iload_n 3, 1) := by decide +kernel
theorem dX7_isAheadByName_68 : decode cX7_isAheadByName 68 = .ok (.invokevirtual 55, 3) := by decide +kernel
theorem dX7_isAheadByName_71 : decode cX7_isAheadByName 71 = .ok (.if_icmp .ge 7, 3) := by decide +kernel
theorem dX7_isAheadByName_74 : decode cX7_isAheadByName 74 = .ok (.iconst 1, 1) := by decide +kernel
theorem dX7_isAheadByName_75 : decode cX7_isAheadByName 75 = .ok (.goto 4, 3) := by decide +kernel
theorem dX7_isAheadByName_78 : decode cX7_isAheadByName 78 = .ok (.iconst 0, 1) := by decide +kernel
theorem dX7_isAheadByName_79 : decode cX7_isAheadByName 79 = .ok (.ireturn, 1) := by decide +kernel
theorem dX7_isAheadByPlace_0 : decode cX7_isAheadByPlace 0 = .ok (.aload_n 0, 1) := by decide +kernel
theorem dX7_isAheadByPlace_1 : decode cX7_isAheadByPlace 1 = .ok (.getfield 31, 3) := by decide +kernel
theorem dX7_isAheadByPlace_4 : decode cX7_isAheadByPlace 4 = .ok (.iload_n 1, 1) := by decide +kernel
theorem dX7_isAheadByPlace_5 : decode cX7_isAheadByPlace 5 = .ok (.iaload, 1) := by decide +kernel
theorem dX7_isAheadByPlace_6 : decode cX7_isAheadByPlace 6 = .ok (.aload_n 0, 1) := by decide +kernel
theorem dX7_isAheadByPlace_7 : decode cX7_isAheadByPlace 7 = .ok (.getfield 31, 3) := by decide +kernel
theorem dX7_isAheadByPlace_10 : decode cX7_isAheadByPlace 10 = .ok (.iload_n 2, 1) := by decide +kernel
theorem dX7_isAheadByPlace_11 : decode cX7_isAheadByPlace 11 = .ok (.iaload, 1) := by decide +kernel
theorem dX7_isAheadByPlace_12 : decode cX7_isAheadByPlace 12 = .ok (.if_icmp .eq 24, 3) := by decide +kernel
theorem dX7_isAheadByPlace_15 : decode cX7_isAheadByPlace 15 = .ok (.aload_n 0, 1) := by decide +kernel
theorem dX7_isAheadByPlace_16 : decode cX7_isAheadByPlace 16 = .ok (.getfield 31, 3) := by decide +kernel
theorem dX7_isAheadByPlace_19 : decode cX7_isAheadByPlace 19 = .ok (.iload_n 1, 1) := by decide +kernel
theorem dX7_isAheadByPlace_20 : decode cX7_isAheadByPlace 20 = .ok (.iaload, 1) := by decide +kernel
theorem dX7_isAheadByPlace_21 : decode cX7_isAheadByPlace 21 = .ok (.aload_n 0, 1) := by decide +kernel
theorem dX7_isAheadByPlace_22 : decode cX7_isAheadByPlace 22 = .ok (.getfield 31, 3) := by decide +kernel
theorem dX7_isAheadByPlace_25 : decode cX7_isAheadByPlace 25 = .ok (.iload_n 2, 1) := by decide +kernel
theorem dX7_isAheadByPlace_26 : decode cX7_isAheadByPlace 26 = .ok (.iaload, 1) := by decide +kernel
theorem dX7_isAheadByPlace_27 : decode cX7_isAheadByPlace 27 = .ok (.if_icmp .ge 7, 3) := by decide +kernel
theorem dX7_isAheadByPlace_30 : decode cX7_isAheadByPlace 30 = .ok (.iconst 1, 1) := by decide +kernel
theorem dX7_isAheadByPlace_31 : decode cX7_isAheadByPlace 31 = .ok (.goto 4, 3) := by decide +kernel
theorem dX7_isAheadByPlace_34 : decode cX7_isAheadByPlace 34 = .ok (.iconst 0, 1) := by decide +kernel
theorem dX7_isAheadByPlace_35 : decode cX7_isAheadByPlace 35 = .ok (.ireturn, 1) := by decide +kernel
theorem dX7_isAheadByPlace_36 : decode cX7_isAheadByPlace 36 = .ok (.aload_n 0, 1) := by decide +kernel
theorem dX7_isAheadByPlace_37 : decode cX7_isAheadByPlace 37 = .ok (.iload_n 1, 1) := by decide +kernel
theorem dX7_isAheadByPlace_38 : decode cX7_isAheadByPlace 38 = .ok (.invokevirtual 58, 3) := by decide +kernel
theorem dX7_isAheadByPlace_41 : decode cX7_isAheadByPlace 41 = .ok (.aload_n 0, 1) := by decide +kernel
theorem dX7_isAheadByPlace_42 : decode cX7_isAheadByPlace 42 = .ok (.iload_n 2, 1) := by decide +kernel
theorem dX7_isAheadByPlace_43 : decode cX7_isAheadByPlace 43 = .ok (.invokevirtual 58, 3) := by decide +kernel
theorem dX7_isAheadByPlace_46 : decode cX7_isAheadByPlace 46 = .ok (.if_icmp .eq 24, 3) := by decide +kernel
theorem dX7_isAheadByPlace_49 : decode cX7_isAheadByPlace 49 = .ok (.aload_n 0, 1) := by decide +kernel
theorem dX7_isAheadByPlace_50 : decode cX7_isAheadByPlace 50 = .ok (.iload_n 1, 1) := by decide +kernel
theorem dX7_isAheadByPlace_51 : decode cX7_isAheadByPlace 51 = .ok (.invokevirtual 58, 3) := by decide +kernel
theorem dX7_isAheadByPlace_54 : decode cX7_isAheadByPlace 54 = .ok (.aload_n 0, 1) := by decide +kernel
theorem dX7_isAheadByPlace_55 : decode cX7_isAheadByPlace 55 = .ok (.iload_n 2, 1) := by decide +kernel
theorem dX7_isAheadByPlace_56 : decode cX7_isAheadByPlace 56 = .ok (.invokevirtual 58, 3) := by decide +kernel
theorem dX7_isAheadByPlace_59 : decode cX7_isAheadByPlace 59 = .ok (.if_icmp .ge 7, 3) := by decide +kernel
theorem dX7_isAheadByPlace_62 : decode cX7_isAheadByPlace 62 = .ok (.iconst 1, 1) := by decide +kernel
theorem dX7_isAheadByPlace_63 : decode cX7_isAheadByPlace 63 = .ok (.goto 17, 3) := by decide +kernel
theorem dX7_isAheadByPlace_66 : decode cX7_isAheadByPlace 66 = .ok (.iconst 0, 1) := by decide +kernel
theorem dX7_isAheadByPlace_67 : decode cX7_isAheadByPlace 67 = .ok (.goto 13, 3) := by decide +kernel
theorem dX7_isAheadByPlace_70 : decode cX7_isAheadByPlace 70 = .ok (.iload_n 1, 1) := by decide +kernel
theorem dX7_isAheadByPlace_71 : decode cX7_isAheadByPlace 71 = .ok (.iload_n 2, 1) := by decide +kernel
theorem dX7_isAheadByPlace_72 : decode cX7_isAheadByPlace 72 = .ok (.if_icmp .ge 7, 3) := by decide +kernel
theorem dX7_isAheadByPlace_75 : decode cX7_isAheadByPlace 75 = .ok (.iconst 1, 1) := by decide +kernel
theorem dX7_isAheadByPlace_76 : decode cX7_isAheadByPlace 76 = .ok (.goto 4, 3) := by decide +kernel
theorem dX7_isAheadByPlace_79 : decode cX7_isAheadByPlace 79 = .ok (.iconst 0, 1) := by decide +kernel
theorem dX7_isAheadByPlace_80 : decode cX7_isAheadByPlace 80 = .ok (.ireturn, 1) := by decide +kernel
theorem dX7_isAhead_0 : decode cX7_isAhead 0 = .ok (.aload_n 0, 1) := by decide +kernel
theorem dX7_isAhead_1 : decode cX7_isAhead 1 = .ok (.getfield 7, 3) := by decide +kernel
theorem dX7_isAhead_4 : decode cX7_isAhead 4 = .ok (.iconst 2, 1) := by decide +kernel
theorem dX7_isAhead_5 : decode cX7_isAhead 5 = .ok (.iaload, 1) := by decide +kernel
theorem dX7_isAhead_6 : decode cX7_isAhead 6 = .ok (.iconst 2, 1) := by decide +kernel
theorem dX7_isAhead_7 : decode cX7_isAhead 7 = .ok (.if_icmp .ne 10, 3) := by decide +kernel
theorem dX7_isAhead_10 : decode cX7_isAhead 10 = .ok (.aload_n 0, 1) := by decide +kernel
theorem dX7_isAhead_11 : decode cX7_isAhead 11 = .ok (.iload_n 1, 1) := by decide +kernel
theorem dX7_isAhead_12 : decode cX7_isAhead 12 = .ok (.iload_n 2, 1) := by decide +kernel
theorem dX7_isAhead_13 : decode cX7_isAhead 13 = .ok (.invokevirtual 78, 3) := by decide +kernel
theorem dX7_isAhead_16 : decode cX7_isAhead 16 = .ok (.ireturn, 1) := by decide +kernel
theorem dX7_isAhead_17 : decode cX7_isAhead 17 = .ok (.aload_n 0, 1) := by decide +kernel
theorem dX7_isAhead_18 : decode cX7_isAhead 18 = .ok (.getfield 7, 3) := by decide +kernel
theorem dX7_isAhead_21 : decode cX7_isAhead 21 = .ok (.iconst 2, 1) := by decide +kernel
theorem dX7_isAhead_22 : decode cX7_isAhead 22 = .ok (.iaload, 1) := by decide +kernel
theorem dX7_isAhead_23 : decode cX7_isAhead 23 = .ok (.iconst 1, 1) := by decide +kernel
theorem dX7_isAhead_24 : decode cX7_isAhead 24 = .ok (.if_icmp .ne 41, 3) := by decide +kernel
theorem dX7_isAhead_27 : decode cX7_isAhead 27 = .ok (.aload_n 0, 1) := by decide +kernel
theorem dX7_isAhead_28 : decode cX7_isAhead 28 = .ok (.iload_n 1, 1) := by decide +kernel
theorem dX7_isAhead_29 : decode cX7_isAhead 29 = .ok (.iconst 1, 1) := by decide +kernel
theorem dX7_isAhead_30 : decode cX7_isAhead 30 = .ok (.invokevirtual 51, 3) := by decide +kernel
theorem dX7_isAhead_33 : decode cX7_isAhead 33 = .ok (.aload_n 0, 1) := by decide +kernel
theorem dX7_isAhead_34 : decode cX7_isAhead 34 = .ok (.iload_n 2, 1) := by decide +kernel
theorem dX7_isAhead_35 : decode cX7_isAhead 35 = .ok (.iconst 1, 1) := by decide +kernel
theorem dX7_isAhead_36 : decode cX7_isAhead 36 = .ok (.invokevirtual 51, 3) := by decide +kernel
theorem dX7_isAhead_39 : decode cX7_isAhead 39 = .ok (.if_icmp .eq 26, 3) := by decide +kernel
theorem dX7_isAhead_42 : decode cX7_isAhead 42 = .ok (.aload_n 0, 1) := by decide +kernel
theorem dX7_isAhead_43 : decode cX7_isAhead 43 = .ok (.iload_n 1, 1) := by decide +kernel
theorem dX7_isAhead_44 : decode cX7_isAhead 44 = .ok (.iconst 1, 1) := by decide +kernel
theorem dX7_isAhead_45 : decode cX7_isAhead 45 = .ok (.invokevirtual 51, 3) := by decide +kernel
theorem dX7_isAhead_48 : decode cX7_isAhead 48 = .ok (.aload_n 0, 1) := by decide +kernel
theorem dX7_isAhead_49 : decode cX7_isAhead 49 = .ok (.iload_n 2, 1) := by decide +kernel
theorem dX7_isAhead_50 : decode cX7_isAhead 50 = .ok (.iconst 1, 1) := by decide +kernel
theorem dX7_isAhead_51 : decode cX7_isAhead 51 = .ok (.invokevirtual 51, 3) := by decide +kernel
theorem dX7_isAhead_54 : decode cX7_isAhead 54 = .ok (.if_icmp .le 7, 3) := by decide +kernel
theorem dX7_isAhead_57 : decode cX7_isAhead 57 = .ok (.iconst 1, 1) := by decide +kernel
theorem dX7_isAhead_58 : decode cX7_isAhead 58 = .ok (.goto 13, 3) := by decide +kernel
theorem dX7_isAhead_61 : decode cX7_isAhead 61 = .ok (.iconst 0, 1) := by decide +kernel
theorem dX7_isAhead_62 : decode cX7_isAhead 62 = .ok (.goto 9, 3) := by decide +kernel
theorem dX7_isAhead_65 : decode cX7_isAhead 65 = .ok (.aload_n 0, 1) := by decide +kernel
theorem dX7_isAhead_66 : decode cX7_isAhead 66 = .ok (.iload_n 1, 1) := by decide +kernel
theorem dX7_isAhead_67 : decode cX7_isAhead 67 = .ok (.iload_n 2, 1) := by decide +kernel
theorem dX7_isAhead_68 : decode cX7_isAhead 68 = .ok (.invokevirtual 81, 3) := by decide +kernel
theorem dX7_isAhead_71 : decode cX7_isAhead 71 = .ok (.ireturn, 1) := by decide +kernel
theorem dX7_findPlaces_0 : decode cX7_findPlaces 0 = .ok (.iconst 0, 1) := by decide +kernel
theorem dX7_findPlaces_1 : decode cX7_findPlaces 1 = .ok (.istore_n 1, 1) := by decide +kernel
theorem dX7_findPlaces_2 : decode cX7_findPlaces 2 = .ok (.iload_n 1, 1) := by decide +kernel
theorem dX7_findPlaces_3 : decode cX7_findPlaces 3 = .ok (.aload_n 0, 1) := by decide +kernel
theorem dX7_findPlaces_4 : decode cX7_findPlaces 4 = .ok (.getfield 7, 3) := by decide +kernel
theorem dX7_findPlaces_7 : decode cX7_findPlaces 7 = .ok (.iconst 0, 1) := by decide +kernel
theorem dX7_findPlaces_8 : decode cX7_findPlaces 8 = .ok (.iaload, 1) := by decide +kernel
theorem dX7_findPlaces_9 : decode cX7_findPlaces 9 = .ok (.if_icmp .ge 31, 3) := by decide +kernel
theorem dX7_findPlaces_12 : decode cX7_findPlaces 12 = .ok (.aload_n 0, 1) := by decide +kernel
theorem dX7_findPlaces_13 : decode cX7_findPlaces 13 = .ok (.getfield 31, 3) := by decide +kernel
theorem dX7_findPlaces_16 : decode cX7_findPlaces 16 = .ok (.iload_n 1, 1) := by decide +kernel
theorem dX7_findPlaces_17 : decode cX7_findPlaces 17 = .ok (.aload_n 0, 1) := by decide +kernel
theorem dX7_findPlaces_18 : decode cX7_findPlaces 18 = .ok (.getfield 72, 3) := by decide +kernel
theorem dX7_findPlaces_21 : decode cX7_findPlaces 21 = .ok (.ifCond .ne 7, 3) := by decide +kernel
theorem dX7_findPlaces_24 : decode cX7_findPlaces 24 = .ok (.iconst 0, 1) := by decide +kernel
theorem dX7_findPlaces_25 : decode cX7_findPlaces 25 = .ok (.goto 8, 3) := by decide +kernel
theorem dX7_findPlaces_28 : decode cX7_findPlaces 28 = .ok (.aload_n 0, 1) := by decide +kernel
theorem dX7_findPlaces_29 : decode cX7_findPlaces 29 = .ok (.iload_n 1, 1) := by decide +kernel
theorem dX7_findPlaces_30 : decode cX7_findPlaces 30 = .ok (.invokevirtual 84, 3) := by decide +kernel
theorem dX7_findPlaces_33 : decode cX7_findPlaces 33 = .ok (.iastore, 1) := by decide +kernel
theorem dX7_findPlaces_34 : decode cX7_findPlaces 34 = .ok (.iinc 1 1, 3) := by decide +kernel
theorem dX7_findPlaces_37 : decode cX7_findPlaces 37 = .ok (.goto (-35), 3) := by decide +kernel
theorem dX7_findPlaces_40 : decode cX7_findPlaces 40 = .ok (.return_, 1) := by decide +kernel
theorem dX7_findResults_0 : decode cX7_findResults 0 = .ok (.aload_n 0, 1) := by decide +kernel
theorem dX7_findResults_1 : decode cX7_findResults 1 = .ok (.invokevirtual 87, 3) := by decide +kernel
theorem dX7_findResults_4 : decode cX7_findResults 4 = .ok (.aload_n 0, 1) := by decide +kernel
theorem dX7_findResults_5 : decode cX7_findResults 5 = .ok (.aload_n 0, 1) := by decide +kernel
theorem dX7_findResults_6 : decode cX7_findResults 6 = .ok (.getfield 7, 3) := by decide +kernel
theorem dX7_findResults_9 : decode cX7_findResults 9 = .ok (.iconst 3, 1) := by decide +kernel
theorem dX7_findResults_10 : decode cX7_findResults 10 = .ok (.iaload, 1) := by decide +kernel
theorem dX7_findResults_11 : decode cX7_findResults 11 = .ok (.putfield 72, 3) := by decide +kernel
theorem dX7_findResults_14 : decode cX7_findResults 14 = .ok (.aload_n 0, 1) := by decide +kernel
theorem dX7_findResults_15 : decode cX7_findResults 15 = .ok (.dup, 1) := by decide +kernel
theorem dX7_findResults_16 : decode cX7_findResults 16 = .ok (.getfield 72, 3) := by decide +kernel
theorem dX7_findResults_19 : decode cX7_findResults 19 = .ok (.aload_n 0, 1) := by decide +kernel
theorem dX7_findResults_20 : decode cX7_findResults 20 = .ok (.getfield 72, 3) := by decide +kernel
theorem dX7_findResults_23 : decode cX7_findResults 23 = .ok (.ifCond .le 25, 3) := by decide +kernel
theorem dX7_findResults_26 : decode cX7_findResults 26 = .ok (.aload_n 0, 1) := by decide +kernel
theorem dX7_findResults_27 : decode cX7_findResults 27 = .ok (.getfield 7, 3) := by decide +kernel
theorem dX7_findResults_30 : decode cX7_findResults 30 = .ok (.iconst 4, 1) := by decide +kernel
theorem dX7_findResults_31 : decode cX7_findResults 31 = .ok (.aload_n 0, 1) := by decide +kernel
theorem dX7_findResults_32 : decode cX7_findResults 32 = .ok (.getfield 72, 3) := by decide +kernel
theorem dX7_findResults_35 : decode cX7_findResults 35 = .ok (.iadd, 1) := by decide +kernel
theorem dX7_findResults_36 : decode cX7_findResults 36 = .ok (.iconst 1, 1) := by decide +kernel
theorem dX7_findResults_37 : decode cX7_findResults 37 = .ok (.isub, 1) := by decide +kernel
theorem dX7_findResults_38 : decode cX7_findResults 38 = .ok (.iaload, 1) := by decide +kernel
theorem dX7_findResults_39 : decode cX7_findResults 39 = .ok (.bipush 32, 2) := by decide +kernel
theorem dX7_findResults_41 : decode cX7_findResults 41 = .ok (.if_icmp .ne 7, 3) := by decide +kernel
theorem dX7_findResults_44 : decode cX7_findResults 44 = .ok (.iconst 1, 1) := by decide +kernel
theorem dX7_findResults_45 : decode cX7_findResults 45 = .ok (.goto 4, 3) := by decide +kernel
theorem dX7_findResults_48 : decode cX7_findResults 48 = .ok (.iconst 0, 1) := by decide +kernel
theorem dX7_findResults_49 : decode cX7_findResults 49 = .ok (.isub, 1) := by decide +kernel
theorem dX7_findResults_50 : decode cX7_findResults 50 = .ok (.putfield 72, 3) := by decide +kernel
theorem dX7_findResults_53 : decode cX7_findResults 53 = .ok (.iconst 0, 1) := by decide +kernel
theorem dX7_findResults_54 : decode cX7_findResults 54 = .ok (.istore_n 1, 1) := by decide +kernel
theorem dX7_findResults_55 : decode cX7_findResults 55 = .ok (.iload_n 1, 1) := by decide +kernel
theorem dX7_findResults_56 : decode cX7_findResults 56 = .ok (.aload_n 0, 1) := by decide +kernel
theorem dX7_findResults_57 : decode cX7_findResults 57 = .ok (.getfield 72, 3) := by decide +kernel
theorem dX7_findResults_60 : decode cX7_findResults 60 = .ok (.if_icmp .ge 23, 3) := by decide +kernel
theorem dX7_findResults_63 : decode cX7_findResults 63 = .ok (.aload_n 0, 1) := by decide +kernel
theorem dX7_findResults_64 : decode cX7_findResults 64 = .ok (.getfield 25, 3) := by decide +kernel
theorem dX7_findResults_67 : decode cX7_findResults 67 = .ok (.iload_n 1, 1) := by decide +kernel
theorem dX7_findResults_68 : decode cX7_findResults 68 = .ok (.aload_n 0, 1) := by decide +kernel
theorem dX7_findResults_69 : decode cX7_findResults 69 = .ok (.getfield 7, 3) := by decide +kernel
theorem dX7_findResults_72 : decode cX7_findResults 72 = .ok (.iconst 4, 1) := by decide +kernel
theorem dX7_findResults_73 : decode cX7_findResults 73 = .ok (.iload_n 1, 1) := by decide +kernel
theorem dX7_findResults_74 : decode cX7_findResults 74 = .ok (.iadd, 1) := by decide +kernel
theorem dX7_findResults_75 : decode cX7_findResults 75 = .ok (.iaload, 1) := by decide +kernel
theorem dX7_findResults_76 : decode cX7_findResults 76 = .ok (.iastore, 1) := by decide +kernel
theorem dX7_findResults_77 : decode cX7_findResults 77 = .ok (.iinc 1 1, 3) := by decide +kernel
theorem dX7_findResults_80 : decode cX7_findResults 80 = .ok (.goto (-25), 3) := by decide +kernel
theorem dX7_findResults_83 : decode cX7_findResults 83 = .ok (.aload_n 0, 1) := by decide +kernel
theorem dX7_findResults_84 : decode cX7_findResults 84 = .ok (.invokevirtual 90, 3) := by decide +kernel
theorem dX7_findResults_87 : decode cX7_findResults 87 = .ok (.aload_n 0, 1) := by decide +kernel
theorem dX7_findResults_88 : decode cX7_findResults 88 = .ok (.iconst 0, 1) := by decide +kernel
theorem dX7_findResults_89 : decode cX7_findResults 89 = .ok (.putfield 93, 3) := by decide +kernel
theorem dX7_findResults_92 : decode cX7_findResults 92 = .ok (.iconst 0, 1) := by decide +kernel
theorem dX7_findResults_93 : decode cX7_findResults 93 = .ok (.istore_n 1, 1) := by decide +kernel
theorem dX7_findResults_94 : decode cX7_findResults 94 = .ok (.iload_n 1, 1) := by decide +kernel
theorem dX7_findResults_95 : decode cX7_findResults 95 = .ok (.aload_n 0, 1) := by decide +kernel
theorem dX7_findResults_96 : decode cX7_findResults 96 = .ok (.getfield 7, 3) := by decide +kernel
theorem dX7_findResults_99 : decode cX7_findResults 99 = .ok (.iconst 0, 1) := by decide +kernel
theorem dX7_findResults_100 : decode cX7_findResults 100 = .ok (.iaload, 1) := by decide +kernel
theorem dX7_findResults_101 : decode cX7_findResults 101 = .ok (.if_icmp .ge 82, 3) := by decide +kernel
theorem dX7_findResults_104 : decode cX7_findResults 104 = .ok (.aload_n 0, 1) := by decide +kernel
theorem dX7_findResults_105 : decode cX7_findResults 105 = .ok (.getfield 31, 3) := by decide +kernel
theorem dX7_findResults_108 : decode cX7_findResults 108 = .ok (.iload_n 1, 1) := by decide +kernel
theorem dX7_findResults_109 : decode cX7_findResults 109 = .ok (.iaload, 1) := by decide +kernel
theorem dX7_findResults_110 : decode cX7_findResults 110 = .ok (.bipush (-6), 2) := by decide +kernel
theorem dX7_findResults_112 : decode cX7_findResults 112 = .ok (.if_icmp .eq 65, 3) := by decide +kernel
theorem dX7_findResults_115 : decode cX7_findResults 115 = .ok (.aload_n 0, 1) := by decide +kernel
theorem dX7_findResults_116 : decode cX7_findResults 116 = .ok (.getfield 93, 3) := by decide +kernel
theorem dX7_findResults_119 : decode cX7_findResults 119 = .ok (.istore_n 2, 1) := by decide +kernel
theorem dX7_findResults_120 : decode cX7_findResults 120 = .ok (.iload_n 2, 1) := by decide +kernel
theorem dX7_findResults_121 : decode cX7_findResults 121 = .ok (.ifCond .le 39, 3) := by decide +kernel
theorem dX7_findResults_124 : decode cX7_findResults 124 = .ok (.aload_n 0, 1) := by decide +kernel
theorem dX7_findResults_125 : decode cX7_findResults 125 = .ok (.iload_n 1, 1) := by decide +kernel
theorem dX7_findResults_126 : decode cX7_findResults 126 = .ok (.aload_n 0, 1) := by decide +kernel
theorem dX7_findResults_127 : decode cX7_findResults 127 = .ok (.getfield 28, 3) := by decide +kernel
theorem dX7_findResults_130 : decode cX7_findResults 130 = .ok (.iload_n 2, 1) := by decide +kernel
theorem dX7_findResults_131 : decode cX7_findResults 131 = .ok (.iconst 1, 1) := by decide +kernel
theorem dX7_findResults_132 : decode cX7_findResults 132 = .ok (.isub, 1) := by decide +kernel
theorem dX7_findResults_133 : decode cX7_findResults 133 = .ok (.iaload, 1) := by decide +kernel
theorem dX7_findResults_134 : decode cX7_findResults 134 = .ok (.invokevirtual 96, 3) := by decide +kernel
theorem dX7_findResults_137 : decode cX7_findResults 137 = .ok (.ifCond .eq 23, 3) := by decide +kernel
theorem dX7_findResults_140 : decode cX7_findResults 140 = .ok (.aload_n 0, 1) := by decide +kernel
theorem dX7_findResults_141 : decode cX7_findResults 141 = .ok (.getfield 28, 3) := by decide +kernel
theorem dX7_findResults_144 : decode cX7_findResults 144 = .ok (.iload_n 2, 1) := by decide +kernel
theorem dX7_findResults_145 : decode cX7_findResults 145 = .ok (.aload_n 0, 1) := by decide +kernel
theorem dX7_findResults_146 : decode cX7_findResults 146 = .ok (.getfield 28, 3) := by decide +kernel
theorem dX7_findResults_149 : decode cX7_findResults 149 = .ok (.iload_n 2, 1) := by decide +kernel
theorem dX7_findResults_150 : decode cX7_findResults 150 = .ok (.iconst 1, 1) := by decide +kernel
theorem dX7_findResults_151 : decode cX7_findResults 151 = .ok (.isub, 1) := by decide +kernel
theorem dX7_findResults_152 : decode cX7_findResults 152 = .ok (.iaload, 1) := by decide +kernel
theorem dX7_findResults_153 : decode cX7_findResults 153 = .ok (.iastore, 1) := by decide +kernel
theorem dX7_findResults_154 : decode cX7_findResults 154 = .ok (.iinc 2 (-1), 3) := by decide +kernel
theorem dX7_findResults_157 : decode cX7_findResults 157 = .ok (.goto (-37), 3) := by decide +kernel
theorem dX7_findResults_160 : decode cX7_findResults 160 = .ok (.aload_n 0, 1) := by decide +kernel
theorem dX7_findResults_161 : decode cX7_findResults 161 = .ok (.getfield 28, 3) := by decide +kernel
theorem dX7_findResults_164 : decode cX7_findResults 164 = .ok (.iload_n 2, 1) := by decide +kernel
theorem dX7_findResults_165 : decode cX7_findResults 165 = .ok (.iload_n 1, 1) := by decide +kernel
theorem dX7_findResults_166 : decode cX7_findResults 166 = .ok (.iastore, 1) := by decide +kernel
theorem dX7_findResults_167 : decode cX7_findResults 167 = .ok (.aload_n 0, 1) := by decide +kernel
theorem dX7_findResults_168 : decode cX7_findResults 168 = .ok (.dup, 1) := by decide +kernel
theorem dX7_findResults_169 : decode cX7_findResults 169 = .ok (.getfield 93, 3) := by decide +kernel
theorem dX7_findResults_172 : decode cX7_findResults 172 = .ok (.iconst 1, 1) := by decide +kernel
theorem dX7_findResults_173 : decode cX7_findResults 173 = .ok (.iadd, 1) := by decide +kernel
theorem dX7_findResults_174 : decode cX7_findResults 174 = .ok (.putfield 93, 3) := by decide +kernel
theorem dX7_findResults_177 : decode cX7_findResults 177 = .ok (.iinc 1 1, 3) := by decide +kernel
theorem dX7_findResults_180 : decode cX7_findResults 180 = .ok (.goto (-86), 3) := by decide +kernel
theorem dX7_findResults_183 : decode cX7_findResults 183 = .ok (.return_, 1) := by decide +kernel
theorem dX7_isAlone_0 : decode cX7_isAlone 0 = .ok (.iconst 1, 1) := by decide +kernel
theorem dX7_isAlone_1 : decode cX7_isAlone 1 = .ok (.istore_n 2, 1) := by decide +kernel
theorem dX7_isAlone_2 : decode cX7_isAlone 2 = .ok (.iconst 0, 1) := by decide +kernel
theorem dX7_isAlone_3 : decode cX7_isAlone 3 = .ok (.istore_n 3, 1) := by decide +kernel
theorem dX7_isAlone_4 : decode cX7_isAlone 4 = .ok (.iload_n 3, 1) := by decide +kernel
theorem dX7_isAlone_5 : decode cX7_isAlone 5 = .ok (.aload_n 0, 1) := by decide +kernel
theorem dX7_isAlone_6 : decode cX7_isAlone 6 = .ok (.getfield 7, 3) := by decide +kernel
theorem dX7_isAlone_9 : decode cX7_isAlone 9 = .ok (.iconst 0, 1) := by decide +kernel
theorem dX7_isAlone_10 : decode cX7_isAlone 10 = .ok (.iaload, 1) := by decide +kernel
theorem dX7_isAlone_11 : decode cX7_isAlone 11 = .ok (.if_icmp .ge 34, 3) := by decide +kernel
theorem dX7_isAlone_14 : decode cX7_isAlone 14 = .ok (.iload_n 2, 1) := by decide +kernel
theorem dX7_isAlone_15 : decode cX7_isAlone 15 = .ok (.ifCond .eq 30, 3) := by decide +kernel
theorem dX7_isAlone_18 : decode cX7_isAlone 18 = .ok (.iload_n 3, 1) := by decide +kernel
theorem dX7_isAlone_19 : decode cX7_isAlone 19 = .ok (.iload_n 1, 1) := by decide +kernel
theorem dX7_isAlone_20 : decode cX7_isAlone 20 = .ok (.if_icmp .eq 13, 3) := by decide +kernel
theorem dX7_isAlone_23 : decode cX7_isAlone 23 = .ok (.aload_n 0, 1) := by decide +kernel
theorem dX7_isAlone_24 : decode cX7_isAlone 24 = .ok (.iload_n 3, 1) := by decide +kernel
theorem dX7_isAlone_25 : decode cX7_isAlone 25 = .ok (.invokevirtual 84, 3) := by decide +kernel
theorem dX7_isAlone_28 : decode cX7_isAlone 28 = .ok (.bipush (-6), 2) := by decide +kernel
theorem dX7_isAlone_30 : decode cX7_isAlone 30 = .ok (.if_icmp .ne 7, 3) := by decide +kernel
theorem dX7_isAlone_33 : decode cX7_isAlone 33 = .ok (.iconst 1, 1) := by decide +kernel
theorem dX7_isAlone_34 : decode cX7_isAlone 34 = .ok (.goto 4, 3) := by decide +kernel
theorem dX7_isAlone_37 : decode cX7_isAlone 37 = .ok (.iconst 0, 1) := by decide +kernel
theorem dX7_isAlone_38 : decode cX7_isAlone 38 = .ok (.istore_n 2, 1) := by decide +kernel
theorem dX7_isAlone_39 : decode cX7_isAlone 39 = .ok (.iinc 3 1, 3) := by decide +kernel
theorem dX7_isAlone_42 : decode cX7_isAlone 42 = .ok (.goto (-38), 3) := by decide +kernel
theorem dX7_isAlone_45 : decode cX7_isAlone 45 = .ok (.iload_n 2, 1) := by decide +kernel
theorem dX7_isAlone_46 : decode cX7_isAlone 46 = .ok (.ireturn, 1) := by decide +kernel
theorem dX7_isFirst_0 : decode cX7_isFirst 0 = .ok (.aload_n 0, 1) := by decide +kernel
theorem dX7_isFirst_1 : decode cX7_isFirst 1 = .ok (.invokevirtual 90, 3) := by decide +kernel
theorem dX7_isFirst_4 : decode cX7_isFirst 4 = .ok (.iconst 1, 1) := by decide +kernel
theorem dX7_isFirst_5 : decode cX7_isFirst 5 = .ok (.istore_n 2, 1) := by decide +kernel
theorem dX7_isFirst_6 : decode cX7_isFirst 6 = .ok (.iconst 0, 1) := by decide +kernel
theorem dX7_isFirst_7 : decode cX7_isFirst 7 = .ok (.istore_n 3, 1) := by decide +kernel
theorem dX7_isFirst_8 : decode cX7_isFirst 8 = .ok (.iload_n 3, 1) := by decide +kernel
theorem dX7_isFirst_9 : decode cX7_isFirst 9 = .ok (.aload_n 0, 1) := by decide +kernel
theorem dX7_isFirst_10 : decode cX7_isFirst 10 = .ok (.getfield 7, 3) := by decide +kernel
theorem dX7_isFirst_13 : decode cX7_isFirst 13 = .ok (.iconst 0, 1) := by decide +kernel
theorem dX7_isFirst_14 : decode cX7_isFirst 14 = .ok (.iaload, 1) := by decide +kernel
theorem dX7_isFirst_15 : decode cX7_isFirst 15 = .ok (.if_icmp .ge 44, 3) := by decide +kernel
theorem dX7_isFirst_18 : decode cX7_isFirst 18 = .ok (.iload_n 2, 1) := by decide +kernel
theorem dX7_isFirst_19 : decode cX7_isFirst 19 = .ok (.ifCond .eq 32, 3) := by decide +kernel
theorem dX7_isFirst_22 : decode cX7_isFirst 22 = .ok (.iload_n 3, 1) := by decide +kernel
theorem dX7_isFirst_23 : decode cX7_isFirst 23 = .ok (.iload_n 1, 1) := by decide +kernel
theorem dX7_isFirst_24 : decode cX7_isFirst 24 = .ok (.if_icmp .eq 23, 3) := by decide +kernel
theorem dX7_isFirst_27 : decode cX7_isFirst 27 = .ok (.aload_n 0, 1) := by decide +kernel
theorem dX7_isFirst_28 : decode cX7_isFirst 28 = .ok (.getfield 31, 3) := by decide +kernel
theorem dX7_isFirst_31 : decode cX7_isFirst 31 = .ok (.iload_n 3, 1) := by decide +kernel
theorem dX7_isFirst_32 : decode cX7_isFirst 32 = .ok (.iaload, 1) := by decide +kernel
theorem dX7_isFirst_33 : decode cX7_isFirst 33 = .ok (.bipush (-6), 2) := by decide +kernel
theorem dX7_isFirst_35 : decode cX7_isFirst 35 = .ok (.if_icmp .eq 12, 3) := by decide +kernel
theorem dX7_isFirst_38 : decode cX7_isFirst 38 = .ok (.aload_n 0, 1) := by decide +kernel
theorem dX7_isFirst_39 : decode cX7_isFirst 39 = .ok (.iload_n 1, 1) := by decide +kernel
theorem dX7_isFirst_40 : decode cX7_isFirst 40 = .ok (.iload_n 3, 1) := by decide +kernel
theorem dX7_isFirst_41 : decode cX7_isFirst 41 = .ok (.invokevirtual 96, 3) := by decide +kernel
theorem dX7_isFirst_44 : decode cX7_isFirst 44 = .ok (.ifCond .eq 7, 3) := by decide +kernel
theorem dX7_isFirst_47 : decode cX7_isFirst 47 = .ok (.iconst 1, 1) := by decide +kernel
theorem dX7_isFirst_48 : decode cX7_isFirst 48 = .ok (.goto 4, 3) := by decide +kernel
theorem dX7_isFirst_51 : decode cX7_isFirst 51 = .ok (.iconst 0, 1) := by decide +kernel
theorem dX7_isFirst_52 : decode cX7_isFirst 52 = .ok (.istore_n 2, 1) := by decide +kernel
theorem dX7_isFirst_53 : decode cX7_isFirst 53 = .ok (.iinc 3 1, 3) := by decide +kernel
theorem dX7_isFirst_56 : decode cX7_isFirst 56 = .ok (.goto (-48), 3) := by decide +kernel
theorem dX7_isFirst_59 : decode cX7_isFirst 59 = .ok (.iload_n 2, 1) := by decide +kernel
theorem dX7_isFirst_60 : decode cX7_isFirst 60 = .ok (.ireturn, 1) := by decide +kernel
theorem dX7_findPiece_0 : decode cX7_findPiece 0 = .ok (.iconst 1, 1) := by decide +kernel
theorem dX7_findPiece_1 : decode cX7_findPiece 1 = .ok (.istore_n 3, 1) := by decide +kernel
theorem dX7_findPiece_2 : decode cX7_findPiece 2 = .ok (.iload_n 3, 1) := by decide +kernel
theorem dX7_findPiece_3 : decode cX7_findPiece 3 = .ok (.aload_n 0, 1) := by decide +kernel
theorem dX7_findPiece_4 : decode cX7_findPiece 4 = .ok (.getfield 22, 3) := by decide +kernel
theorem dX7_findPiece_7 : decode cX7_findPiece 7 = .ok (.iload_n 1, 1) := by decide +kernel
theorem dX7_findPiece_8 : decode cX7_findPiece 8 = .ok (.iaload, 1) := by decide +kernel
theorem dX7_findPiece_9 : decode cX7_findPiece 9 = .ok (.if_icmp .gt 85, 3) := by decide +kernel
theorem dX7_findPiece_12 : decode cX7_findPiece 12 = .ok (.iconst 0, 1) := by decide +kernel
theorem dX7_findPiece_13 : decode cX7_findPiece 13 = .ok (.istore 4, 2) := by decide +kernel
theorem dX7_findPiece_15 : decode cX7_findPiece 15 = .ok (.iload 4, 2) := by decide +kernel
theorem dX7_findPiece_17 : decode cX7_findPiece 17 = .ok (.iload_n 3, 1) := by decide +kernel
theorem dX7_findPiece_18 : decode cX7_findPiece 18 = .ok (.iadd, 1) := by decide +kernel
theorem dX7_findPiece_19 : decode cX7_findPiece 19 = .ok (.aload_n 0, 1) := by decide +kernel
theorem dX7_findPiece_20 : decode cX7_findPiece 20 = .ok (.getfield 22, 3) := by decide +kernel
theorem dX7_findPiece_23 : decode cX7_findPiece 23 = .ok (.iload_n 1, 1) := by decide +kernel
theorem dX7_findPiece_24 : decode cX7_findPiece 24 = .ok (.iaload, 1) := by decide +kernel
theorem dX7_findPiece_25 : decode cX7_findPiece 25 = .ok (.if_icmp .gt 63, 3) := by decide +kernel
theorem dX7_findPiece_28 : decode cX7_findPiece 28 = .ok (.aload_n 0, 1) := by decide +kernel
theorem dX7_findPiece_29 : decode cX7_findPiece 29 = .ok (.iload_n 1, 1) := by decide +kernel
theorem dX7_findPiece_30 : decode cX7_findPiece 30 = .ok (.iload 4, 2) := by decide +kernel
theorem dX7_findPiece_32 : decode cX7_findPiece 32 = .ok (.iload_n 3, 1) := by decide +kernel
theorem dX7_findPiece_33 : decode cX7_findPiece 33 = .ok (.invokevirtual 75, 3) := by decide +kernel
theorem dX7_findPiece_36 : decode cX7_findPiece 36 = .ok (.ifCond .eq 46, 3) := by decide +kernel
theorem dX7_findPiece_39 : decode cX7_findPiece 39 = .ok (.aload_n 0, 1) := by decide +kernel
theorem dX7_findPiece_40 : decode cX7_findPiece 40 = .ok (.iload_n 1, 1) := by decide +kernel
theorem dX7_findPiece_41 : decode cX7_findPiece 41 = .ok (.iload 4, 2) := by decide +kernel
theorem dX7_findPiece_43 : decode cX7_findPiece 43 = .ok (.iload_n 3, 1) := by decide +kernel
theorem dX7_findPiece_44 : decode cX7_findPiece 44 = .ok (.invokevirtual 99, 3) := by decide +kernel
theorem dX7_findPiece_47 : decode cX7_findPiece 47 = .ok (.iload_n 2, 1) := by decide +kernel
theorem dX7_findPiece_48 : decode cX7_findPiece 48 = .ok (.ifCond .eq 14, 3) := by decide +kernel
theorem dX7_findPiece_51 : decode cX7_findPiece 51 = .ok (.aload_n 0, 1) := by decide +kernel
theorem dX7_findPiece_52 : decode cX7_findPiece 52 = .ok (.iload_n 1, 1) := by decide +kernel
theorem dX7_findPiece_53 : decode cX7_findPiece 53 = .ok (.invokevirtual 103, 3) := by decide +kernel
theorem dX7_findPiece_56 : decode cX7_findPiece 56 = .ok (.ifCond .eq 26, 3) := by decide +kernel
theorem dX7_findPiece_59 : decode cX7_findPiece 59 = .ok (.goto 11, 3) := by decide +kernel
theorem dX7_findPiece_62 : decode cX7_findPiece 62 = .ok (.aload_n 0, 1) := by decide +kernel
theorem dX7_findPiece_63 : decode cX7_findPiece 63 = .ok (.iload_n 1, 1) := by decide +kernel
theorem dX7_findPiece_64 : decode cX7_findPiece 64 = .ok (.invokevirtual 107, 3) := by decide +kernel
theorem dX7_findPiece_67 : decode cX7_findPiece 67 = .ok (.ifCond .eq 15, 3) := by decide +kernel
theorem dX7_findPiece_70 : decode cX7_findPiece 70 = .ok (.aload_n 0, 1) := by decide +kernel
theorem dX7_findPiece_71 : decode cX7_findPiece 71 = .ok (.iload 4, 2) := by decide +kernel
theorem dX7_findPiece_73 : decode cX7_findPiece 73 = .ok (.putfield 110, 3) := by decide +kernel
theorem dX7_findPiece_76 : decode cX7_findPiece 76 = .ok (.aload_n 0, 1) := by decide +kernel
theorem dX7_findPiece_77 : decode cX7_findPiece 77 = .ok (.iload_n 3, 1) := by decide +kernel
theorem dX7_findPiece_78 : decode cX7_findPiece 78 = .ok (.putfield 113, 3) := by decide +kernel
theorem dX7_findPiece_81 : decode cX7_findPiece 81 = .ok (.return_, 1) := by decide +kernel
theorem dX7_findPiece_82 : decode cX7_findPiece 82 = .ok (.iinc 4 1, 3) := by decide +kernel
theorem dX7_findPiece_85 : decode cX7_findPiece 85 = .ok (.goto (-70), 3) := by decide +kernel
theorem dX7_findPiece_88 : decode cX7_findPiece 88 = .ok (.iinc 3 1, 3) := by decide +kernel
theorem dX7_findPiece_91 : decode cX7_findPiece 91 = .ok (.goto (-89), 3) := by decide +kernel
theorem dX7_findPiece_94 : decode cX7_findPiece 94 = .ok (.aload_n 0, 1) := by decide +kernel
theorem dX7_findPiece_95 : decode cX7_findPiece 95 = .ok (.bipush (-6), 2) := by decide +kernel
theorem dX7_findPiece_97 : decode cX7_findPiece 97 = .ok (.putfield 110, 3) := by decide +kernel
theorem dX7_findPiece_100 : decode cX7_findPiece 100 = .ok (.aload_n 0, 1) := by decide +kernel
theorem dX7_findPiece_101 : decode cX7_findPiece 101 = .ok (.bipush (-6), 2) := by decide +kernel
theorem dX7_findPiece_103 : decode cX7_findPiece 103 = .ok (.putfield 113, 3) := by decide +kernel
theorem dX7_findPiece_106 : decode cX7_findPiece 106 = .ok (.return_, 1) := by decide +kernel
theorem dX7_findKeys_0 : decode cX7_findKeys 0 = .ok (.aload_n 0, 1) := by decide +kernel
theorem dX7_findKeys_1 : decode cX7_findKeys 1 = .ok (.invokevirtual 87, 3) := by decide +kernel
theorem dX7_findKeys_4 : decode cX7_findKeys 4 = .ok (.iconst 0, 1) := by decide +kernel
theorem dX7_findKeys_5 : decode cX7_findKeys 5 = .ok (.istore_n 1, 1) := by decide +kernel
theorem dX7_findKeys_6 : decode cX7_findKeys 6 = .ok (.iload_n 1, 1) := by decide +kernel
theorem dX7_findKeys_7 : decode cX7_findKeys 7 = .ok (.aload_n 0, 1) := by decide +kernel
theorem dX7_findKeys_8 : decode cX7_findKeys 8 = .ok (.getfield 7, 3) := by decide +kernel
theorem dX7_findKeys_11 : decode cX7_findKeys 11 = .ok (.iconst 0, 1) := by decide +kernel
theorem dX7_findKeys_12 : decode cX7_findKeys 12 = .ok (.iaload, 1) := by decide +kernel
theorem dX7_findKeys_13 : decode cX7_findKeys 13 = .ok (.if_icmp .ge 35, 3) := by decide +kernel
theorem dX7_findKeys_16 : decode cX7_findKeys 16 = .ok (.aload_n 0, 1) := by decide +kernel
theorem dX7_findKeys_17 : decode cX7_findKeys 17 = .ok (.iload_n 1, 1) := by decide +kernel
theorem dX7_findKeys_18 : decode cX7_findKeys 18 = .ok (.iconst 1, 1) := by decide +kernel
theorem dX7_findKeys_19 : decode cX7_findKeys 19 = .ok (.invokevirtual 116, 3) := by decide +kernel
theorem dX7_findKeys_22 : decode cX7_findKeys 22 = .ok (.aload_n 0, 1) := by decide +kernel
theorem dX7_findKeys_23 : decode cX7_findKeys 23 = .ok (.getfield 34, 3) := by decide +kernel
theorem dX7_findKeys_26 : decode cX7_findKeys 26 = .ok (.iload_n 1, 1) := by decide +kernel
theorem dX7_findKeys_27 : decode cX7_findKeys 27 = .ok (.aload_n 0, 1) := by decide +kernel
theorem dX7_findKeys_28 : decode cX7_findKeys 28 = .ok (.getfield 110, 3) := by decide +kernel
theorem dX7_findKeys_31 : decode cX7_findKeys 31 = .ok (.iastore, 1) := by decide +kernel
theorem dX7_findKeys_32 : decode cX7_findKeys 32 = .ok (.aload_n 0, 1) := by decide +kernel
theorem dX7_findKeys_33 : decode cX7_findKeys 33 = .ok (.getfield 37, 3) := by decide +kernel
theorem dX7_findKeys_36 : decode cX7_findKeys 36 = .ok (.iload_n 1, 1) := by decide +kernel
theorem dX7_findKeys_37 : decode cX7_findKeys 37 = .ok (.aload_n 0, 1) := by decide +kernel
theorem dX7_findKeys_38 : decode cX7_findKeys 38 = .ok (.getfield 113, 3) := by decide +kernel
theorem dX7_findKeys_41 : decode cX7_findKeys 41 = .ok (.iastore, 1) := by decide +kernel
theorem dX7_findKeys_42 : decode cX7_findKeys 42 = .ok (.iinc 1 1, 3) := by decide +kernel
theorem dX7_findKeys_45 : decode cX7_findKeys 45 = .ok (.goto (-39), 3) := by decide +kernel
theorem dX7_findKeys_48 : decode cX7_findKeys 48 = .ok (.return_, 1) := by decide +kernel
theorem dX7_unknownNow_0 : decode cX7_unknownNow 0 = .ok (.iconst 0, 1) := by decide +kernel
theorem dX7_unknownNow_1 : decode cX7_unknownNow 1 = .ok (.istore_n 1, 1) := by decide +kernel
theorem dX7_unknownNow_2 : decode cX7_unknownNow 2 = .ok (.iconst 0, 1) := by decide +kernel
theorem dX7_unknownNow_3 : decode cX7_unknownNow 3 = .ok (.istore_n 2, 1) := by decide +kernel
theorem dX7_unknownNow_4 : decode cX7_unknownNow 4 = .ok (.iload_n 2, 1) := by decide +kernel
theorem dX7_unknownNow_5 : decode cX7_unknownNow 5 = .ok (.aload_n 0, 1) := by decide +kernel
theorem dX7_unknownNow_6 : decode cX7_unknownNow 6 = .ok (.getfield 7, 3) := by decide +kernel
theorem dX7_unknownNow_9 : decode cX7_unknownNow 9 = .ok (.iconst 0, 1) := by decide +kernel
theorem dX7_unknownNow_10 : decode cX7_unknownNow 10 = .ok (.iaload, 1) := by decide +kernel
theorem dX7_unknownNow_11 : decode cX7_unknownNow 11 = .ok (.if_icmp .ge 28, 3) := by decide +kernel
theorem dX7_unknownNow_14 : decode cX7_unknownNow 14 = .ok (.iload_n 1, 1) := by decide +kernel
theorem dX7_unknownNow_15 : decode cX7_unknownNow 15 = .ok (.aload_n 0, 1) := by decide +kernel
theorem dX7_unknownNow_16 : decode cX7_unknownNow 16 = .ok (.getfield 37, 3) := by decide +kernel
theorem dX7_unknownNow_19 : decode cX7_unknownNow 19 = .ok (.iload_n 2, 1) := by decide +kernel
theorem dX7_unknownNow_20 : decode cX7_unknownNow 20 = .ok (.iaload, 1) := by decide +kernel
theorem dX7_unknownNow_21 : decode cX7_unknownNow 21 = .ok (.bipush (-6), 2) := by decide +kernel
theorem dX7_unknownNow_23 : decode cX7_unknownNow 23 = .ok (.if_icmp .ne 7, 3) := by decide +kernel
theorem dX7_unknownNow_26 : decode cX7_unknownNow 26 = .ok (.iconst 1, 1) := by decide +kernel
theorem dX7_unknownNow_27 : decode cX7_unknownNow 27 = .ok (.goto 4, 3) := by decide +kernel
theorem dX7_unknownNow_30 : decode cX7_unknownNow 30 = .ok (.iconst 0, 1) := by decide +kernel
theorem dX7_unknownNow_31 : decode cX7_unknownNow 31 = .ok (.iadd, 1) := by decide +kernel
theorem dX7_unknownNow_32 : decode cX7_unknownNow 32 = .ok (.istore_n 1, 1) := by decide +kernel
theorem dX7_unknownNow_33 : decode cX7_unknownNow 33 = .ok (.iinc 2 1, 3) := by decide +kernel
theorem dX7_unknownNow_36 : decode cX7_unknownNow 36 = .ok (.goto (-32), 3) := by decide +kernel
theorem dX7_unknownNow_39 : decode cX7_unknownNow 39 = .ok (.iload_n 1, 1) := by decide +kernel
theorem dX7_unknownNow_40 : decode cX7_unknownNow 40 = .ok (.ireturn, 1) := by decide +kernel
theorem dX7_hardestNow_0 : decode cX7_hardestNow 0 = .ok (.bipush (-6), 2) := by decide +kernel
theorem dX7_hardestNow_2 : decode cX7_hardestNow 2 = .ok (.istore_n 1, 1) := by decide +kernel
theorem dX7_hardestNow_3 : decode cX7_hardestNow 3 = .ok (.iconst 0, 1) := by decide +kernel
theorem dX7_hardestNow_4 : decode cX7_hardestNow 4 = .ok (.istore_n 2, 1) := by decide +kernel
theorem dX7_hardestNow_5 : decode cX7_hardestNow 5 = .ok (.iload_n 2, 1) := by decide +kernel
theorem dX7_hardestNow_6 : decode cX7_hardestNow 6 = .ok (.aload_n 0, 1) := by decide +kernel
theorem dX7_hardestNow_7 : decode cX7_hardestNow 7 = .ok (.getfield 7, 3) := by decide +kernel
theorem dX7_hardestNow_10 : decode cX7_hardestNow 10 = .ok (.iconst 0, 1) := by decide +kernel
theorem dX7_hardestNow_11 : decode cX7_hardestNow 11 = .ok (.iaload, 1) := by decide +kernel
theorem dX7_hardestNow_12 : decode cX7_hardestNow 12 = .ok (.if_icmp .ge 47, 3) := by decide +kernel
theorem dX7_hardestNow_15 : decode cX7_hardestNow 15 = .ok (.aload_n 0, 1) := by decide +kernel
theorem dX7_hardestNow_16 : decode cX7_hardestNow 16 = .ok (.getfield 37, 3) := by decide +kernel
theorem dX7_hardestNow_19 : decode cX7_hardestNow 19 = .ok (.iload_n 2, 1) := by decide +kernel
theorem dX7_hardestNow_20 : decode cX7_hardestNow 20 = .ok (.iaload, 1) := by decide +kernel
theorem dX7_hardestNow_21 : decode cX7_hardestNow 21 = .ok (.bipush (-6), 2) := by decide +kernel
theorem dX7_hardestNow_23 : decode cX7_hardestNow 23 = .ok (.if_icmp .eq 28, 3) := by decide +kernel
theorem dX7_hardestNow_26 : decode cX7_hardestNow 26 = .ok (.iload_n 1, 1) := by decide +kernel
theorem dX7_hardestNow_27 : decode cX7_hardestNow 27 = .ok (.bipush (-6), 2) := by decide +kernel
theorem dX7_hardestNow_29 : decode cX7_hardestNow 29 = .ok (.if_icmp .eq 18, 3) := by decide +kernel
theorem dX7_hardestNow_32 : decode cX7_hardestNow 32 = .ok (.aload_n 0, 1) := by decide +kernel
theorem dX7_hardestNow_33 : decode cX7_hardestNow 33 = .ok (.getfield 37, 3) := by decide +kernel
theorem dX7_hardestNow_36 : decode cX7_hardestNow 36 = .ok (.iload_n 2, 1) := by decide +kernel
theorem dX7_hardestNow_37 : decode cX7_hardestNow 37 = .ok (.iaload, 1) := by decide +kernel
theorem dX7_hardestNow_38 : decode cX7_hardestNow 38 = .ok (.aload_n 0, 1) := by decide +kernel
theorem dX7_hardestNow_39 : decode cX7_hardestNow 39 = .ok (.getfield 37, 3) := by decide +kernel
theorem dX7_hardestNow_42 : decode cX7_hardestNow 42 = .ok (.iload_n 1, 1) := by decide +kernel
theorem dX7_hardestNow_43 : decode cX7_hardestNow 43 = .ok (.iaload, 1) := by decide +kernel
theorem dX7_hardestNow_44 : decode cX7_hardestNow 44 = .ok (.if_icmp .le 7, 3) := by decide +kernel
theorem dX7_hardestNow_47 : decode cX7_hardestNow 47 = .ok (.iload_n 2, 1) := by decide +kernel
theorem dX7_hardestNow_48 : decode cX7_hardestNow 48 = .ok (.goto 4, 3) := by decide +kernel
theorem dX7_hardestNow_51 : decode cX7_hardestNow 51 = .ok (.iload_n 1, 1) := by decide +kernel
theorem dX7_hardestNow_52 : decode cX7_hardestNow 52 = .ok (.istore_n 1, 1) := by decide +kernel
theorem dX7_hardestNow_53 : decode cX7_hardestNow 53 = .ok (.iinc 2 1, 3) := by decide +kernel
theorem dX7_hardestNow_56 : decode cX7_hardestNow 56 = .ok (.goto (-51), 3) := by decide +kernel
theorem dX7_hardestNow_59 : decode cX7_hardestNow 59 = .ok (.iload_n 1, 1) := by decide +kernel
theorem dX7_hardestNow_60 : decode cX7_hardestNow 60 = .ok (.ireturn, 1) := by decide +kernel
theorem dX7_type_0 : decode cX7_type 0 = .ok (.iload_n 1, 1) := by decide +kernel
theorem dX7_type_1 : decode cX7_type 1 = .ok (.bipush 32, 2) := by decide +kernel
theorem dX7_type_3 : decode cX7_type 3 = .ok (.bipush 126, 2) := by decide +kernel
theorem dX7_type_5 : decode cX7_type 5 = .ok (.invokestatic 47, 3) := by decide +kernel
theorem dX7_type_8 : decode cX7_type 8 = .ok (.ifCond .ne 6, 3) := by decide +kernel
theorem dX7_type_11 : decode cX7_type 11 = .ok (.bipush (-2), 2) := by decide +kernel
theorem dX7_type_13 : decode cX7_type 13 = .ok (.ireturn, 1) := by decide +kernel
theorem dX7_type_14 : decode cX7_type 14 = .ok (.aload_n 0, 1) := by decide +kernel
theorem dX7_type_15 : decode cX7_type 15 = .ok (.getfield 120, 3) := by decide +kernel
theorem dX7_type_18 : decode cX7_type 18 = .ok (.bipush 80, 2) := by decide +kernel
theorem dX7_type_20 : decode cX7_type 20 = .ok (.if_icmp .ne 6, 3) := by decide +kernel
theorem dX7_type_23 : decode cX7_type 23 = .ok (.bipush (-4), 2) := by decide +kernel
theorem dX7_type_25 : decode cX7_type 25 = .ok (.ireturn, 1) := by decide +kernel
theorem dX7_type_26 : decode cX7_type 26 = .ok (.aload_n 0, 1) := by decide +kernel
theorem dX7_type_27 : decode cX7_type 27 = .ok (.getfield 16, 3) := by decide +kernel
theorem dX7_type_30 : decode cX7_type 30 = .ok (.aload_n 0, 1) := by decide +kernel
theorem dX7_type_31 : decode cX7_type 31 = .ok (.getfield 120, 3) := by decide +kernel
theorem dX7_type_34 : decode cX7_type 34 = .ok (.iload_n 1, 1) := by decide +kernel
theorem dX7_type_35 : decode cX7_type 35 = .ok (.iastore, 1) := by decide +kernel
theorem dX7_type_36 : decode cX7_type 36 = .ok (.aload_n 0, 1) := by decide +kernel
theorem dX7_type_37 : decode cX7_type 37 = .ok (.dup, 1) := by decide +kernel
theorem dX7_type_38 : decode cX7_type 38 = .ok (.getfield 120, 3) := by decide +kernel
theorem dX7_type_41 : decode cX7_type 41 = .ok (.iconst 1, 1) := by decide +kernel
theorem dX7_type_42 : decode cX7_type 42 = .ok (.iadd, 1) := by decide +kernel
theorem dX7_type_43 : decode cX7_type 43 = .ok (.putfield 120, 3) := by decide +kernel
theorem dX7_type_46 : decode cX7_type 46 = .ok (.aload_n 0, 1) := by decide +kernel
theorem dX7_type_47 : decode cX7_type 47 = .ok (.getfield 120, 3) := by decide +kernel
theorem dX7_type_50 : decode cX7_type 50 = .ok (.ireturn, 1) := by decide +kernel
theorem dX7_clearText_0 : decode cX7_clearText 0 = .ok (.aload_n 0, 1) := by decide +kernel
theorem dX7_clearText_1 : decode cX7_clearText 1 = .ok (.getfield 120, 3) := by decide +kernel
theorem dX7_clearText_4 : decode cX7_clearText 4 = .ok (.istore_n 1, 1) := by decide +kernel
theorem dX7_clearText_5 : decode cX7_clearText 5 = .ok (.aload_n 0, 1) := by decide +kernel
theorem dX7_clearText_6 : decode cX7_clearText 6 = .ok (.iconst 0, 1) := by decide +kernel
theorem dX7_clearText_7 : decode cX7_clearText 7 = .ok (.putfield 120, 3) := by decide +kernel
theorem dX7_clearText_10 : decode cX7_clearText 10 = .ok (.iload_n 1, 1) := by decide +kernel
theorem dX7_clearText_11 : decode cX7_clearText 11 = .ok (.ireturn, 1) := by decide +kernel
theorem dX7_typedAt_0 : decode cX7_typedAt 0 = .ok (.iload_n 1, 1) := by decide +kernel
theorem dX7_typedAt_1 : decode cX7_typedAt 1 = .ok (.aload_n 0, 1) := by decide +kernel
theorem dX7_typedAt_2 : decode cX7_typedAt 2 = .ok (.getfield 120, 3) := by decide +kernel
theorem dX7_typedAt_5 : decode cX7_typedAt 5 = .ok (.if_icmp .ge 12, 3) := by decide +kernel
theorem dX7_typedAt_8 : decode cX7_typedAt 8 = .ok (.aload_n 0, 1) := by decide +kernel
theorem dX7_typedAt_9 : decode cX7_typedAt 9 = .ok (.getfield 16, 3) := by decide +kernel
theorem dX7_typedAt_12 : decode cX7_typedAt 12 = .ok (.iload_n 1, 1) := by decide +kernel
theorem dX7_typedAt_13 : decode cX7_typedAt 13 = .ok (.iaload, 1) := by decide +kernel
theorem dX7_typedAt_14 : decode cX7_typedAt 14 = .ok (.goto 4, 3) := by decide +kernel
theorem dX7_typedAt_17 : decode cX7_typedAt 17 = .ok (.iconst (-1), 1) := by decide +kernel
theorem dX7_typedAt_18 : decode cX7_typedAt 18 = .ok (.ireturn, 1) := by decide +kernel
theorem dX7_isNext_0 : decode cX7_isNext 0 = .ok (.aload_n 0, 1) := by decide +kernel
theorem dX7_isNext_1 : decode cX7_isNext 1 = .ok (.aload_n 0, 1) := by decide +kernel
theorem dX7_isNext_2 : decode cX7_isNext 2 = .ok (.getfield 123, 3) := by decide +kernel
theorem dX7_isNext_5 : decode cX7_isNext 5 = .ok (.invokevirtual 126, 3) := by decide +kernel
theorem dX7_isNext_8 : decode cX7_isNext 8 = .ok (.iload_n 1, 1) := by decide +kernel
theorem dX7_isNext_9 : decode cX7_isNext 9 = .ok (.if_icmp .ne 7, 3) := by decide +kernel
theorem dX7_isNext_12 : decode cX7_isNext 12 = .ok (.iconst 1, 1) := by decide +kernel
theorem dX7_isNext_13 : decode cX7_isNext 13 = .ok (.goto 4, 3) := by decide +kernel
theorem dX7_isNext_16 : decode cX7_isNext 16 = .ok (.iconst 0, 1) := by decide +kernel
theorem dX7_isNext_17 : decode cX7_isNext 17 = .ok (.istore_n 2, 1) := by decide +kernel
theorem dX7_isNext_18 : decode cX7_isNext 18 = .ok (.aload_n 0, 1) := by decide +kernel
theorem dX7_isNext_19 : decode cX7_isNext 19 = .ok (.dup, 1) := by decide +kernel
theorem dX7_isNext_20 : decode cX7_isNext 20 = .ok (.getfield 123, 3) := by decide +kernel
theorem dX7_isNext_23 : decode cX7_isNext 23 = .ok (.iload_n 2, 1) := by decide +kernel
theorem dX7_isNext_24 : decode cX7_isNext 24 = .ok (.ifCond .eq 7, 3) := by decide +kernel
theorem dX7_isNext_27 : decode cX7_isNext 27 = .ok (.iconst 1, 1) := by decide +kernel
theorem dX7_isNext_28 : decode cX7_isNext 28 = .ok (.goto 4, 3) := by decide +kernel
theorem dX7_isNext_31 : decode cX7_isNext 31 = .ok (.iconst 0, 1) := by decide +kernel
theorem dX7_isNext_32 : decode cX7_isNext 32 = .ok (.iadd, 1) := by decide +kernel
theorem dX7_isNext_33 : decode cX7_isNext 33 = .ok (.putfield 123, 3) := by decide +kernel
theorem dX7_isNext_36 : decode cX7_isNext 36 = .ok (.iload_n 2, 1) := by decide +kernel
theorem dX7_isNext_37 : decode cX7_isNext 37 = .ok (.ireturn, 1) := by decide +kernel
theorem dX7_readsWord_0 : decode cX7_readsWord 0 = .ok (.lload_n 1, 1) := by decide +kernel
theorem dX7_readsWord_1 : decode cX7_readsWord 1 = .ok (.lstore_n 3, 1) := by decide +kernel
theorem dX7_readsWord_2 : decode cX7_readsWord 2 = .ok (.iconst 1, 1) := by decide +kernel
theorem dX7_readsWord_3 : decode cX7_readsWord 3 = .ok (.istore 5, 2) := by decide +kernel
theorem dX7_readsWord_5 : decode cX7_readsWord 5 = .ok (.lload_n 3, 1) := by decide +kernel
theorem dX7_readsWord_6 : decode cX7_readsWord 6 = .ok (.lconst 0, 1) := by decide +kernel
theorem dX7_readsWord_7 : decode cX7_readsWord 7 = .ok (.lcmp, 1) := by decide +kernel
theorem dX7_readsWord_8 : decode cX7_readsWord 8 = .ok (.ifCond .le 28, 3) := by decide +kernel
theorem dX7_readsWord_11 : decode cX7_readsWord 11 = .ok (.iload 5, 2) := by decide +kernel
theorem dX7_readsWord_13 : decode cX7_readsWord 13 = .ok (.ifCond .eq 23, 3) := by decide +kernel
theorem dX7_readsWord_16 : decode cX7_readsWord 16 = .ok (.aload_n 0, 1) := by decide +kernel
theorem dX7_readsWord_17 : decode cX7_readsWord 17 = .ok (.lload_n 3, 1) := by decide +kernel
theorem dX7_readsWord_18 : decode cX7_readsWord 18 = .ok (.ldc2_w 129, 3) := by decide +kernel
theorem dX7_readsWord_21 : decode cX7_readsWord 21 = .ok (.land, 1) := by decide +kernel
theorem dX7_readsWord_22 : decode cX7_readsWord 22 = .ok (.l2i, 1) := by decide +kernel
theorem dX7_readsWord_23 : decode cX7_readsWord 23 = .ok (.invokevirtual 131, 3) := by decide +kernel
theorem dX7_readsWord_26 : decode cX7_readsWord 26 = .ok (.istore 5, 2) := by decide +kernel
theorem dX7_readsWord_28 : decode cX7_readsWord 28 = .ok (.lload_n 3, 1) := by decide +kernel
theorem dX7_readsWord_29 : decode cX7_readsWord 29 = .ok (.bipush 8, 2) := by decide +kernel
theorem dX7_readsWord_31 : decode cX7_readsWord 31 = .ok (.lshr, 1) := by decide +kernel
theorem dX7_readsWord_32 : decode cX7_readsWord 32 = .ok (.lstore_n 3, 1) := by decide +kernel
theorem dX7_readsWord_33 : decode cX7_readsWord 33 = .ok (.goto (-28), 3) := by decide +kernel
theorem dX7_readsWord_36 : decode cX7_readsWord 36 = .ok (.iload 5, 2) := by decide +kernel
theorem dX7_readsWord_38 : decode cX7_readsWord 38 = .ok (.ireturn, 1) := by decide +kernel
theorem dX7_readsTitle_0 : decode cX7_readsTitle 0 = .ok (.aload_n 0, 1) := by decide +kernel
theorem dX7_readsTitle_1 : decode cX7_readsTitle 1 = .ok (.aload_n 0, 1) := by decide +kernel
theorem dX7_readsTitle_2 : decode cX7_readsTitle 2 = .ok (.getfield 123, 3) := by decide +kernel
theorem dX7_readsTitle_5 : decode cX7_readsTitle 5 = .ok (.putfield 134, 3) := by decide +kernel
theorem dX7_readsTitle_8 : decode cX7_readsTitle 8 = .ok (.iconst 1, 1) := by decide +kernel
theorem dX7_readsTitle_9 : decode cX7_readsTitle 9 = .ok (.istore_n 1, 1) := by decide +kernel
theorem dX7_readsTitle_10 : decode cX7_readsTitle 10 = .ok (.iload_n 1, 1) := by decide +kernel
theorem dX7_readsTitle_11 : decode cX7_readsTitle 11 = .ok (.ifCond .eq 106, 3) := by decide +kernel
theorem dX7_readsTitle_14 : decode cX7_readsTitle 14 = .ok (.aload_n 0, 1) := by decide +kernel
theorem dX7_readsTitle_15 : decode cX7_readsTitle 15 = .ok (.aload_n 0, 1) := by decide +kernel
theorem dX7_readsTitle_16 : decode cX7_readsTitle 16 = .ok (.getfield 123, 3) := by decide +kernel
theorem dX7_readsTitle_19 : decode cX7_readsTitle 19 = .ok (.invokevirtual 126, 3) := by decide +kernel
theorem dX7_readsTitle_22 : decode cX7_readsTitle 22 = .ok (.istore_n 2, 1) := by decide +kernel
theorem dX7_readsTitle_23 : decode cX7_readsTitle 23 = .ok (.aload_n 0, 1) := by decide +kernel
theorem dX7_readsTitle_24 : decode cX7_readsTitle 24 = .ok (.getfield 123, 3) := by decide +kernel
theorem dX7_readsTitle_27 : decode cX7_readsTitle 27 = .ok (.aload_n 0, 1) := by decide +kernel
theorem dX7_readsTitle_28 : decode cX7_readsTitle 28 = .ok (.getfield 134, 3) := by decide +kernel
theorem dX7_readsTitle_31 : decode cX7_readsTitle 31 = .ok (.isub, 1) := by decide +kernel
theorem dX7_readsTitle_32 : decode cX7_readsTitle 32 = .ok (.istore_n 3, 1) := by decide +kernel
theorem dX7_readsTitle_33 : decode cX7_readsTitle 33 = .ok (.iload_n 3, 1) := by decide +kernel
theorem dX7_readsTitle_34 : decode cX7_readsTitle 34 = .ok (.ifCond .le 23, 3) := by decide +kernel
theorem dX7_readsTitle_37 : decode cX7_readsTitle 37 = .ok (.aload_n 0, 1) := by decide +kernel
theorem dX7_readsTitle_38 : decode cX7_readsTitle 38 = .ok (.aload_n 0, 1) := by decide +kernel
theorem dX7_readsTitle_39 : decode cX7_readsTitle 39 = .ok (.getfield 123, 3) := by decide +kernel
theorem dX7_readsTitle_42 : decode cX7_readsTitle 42 = .ok (.iconst 1, 1) := by decide +kernel
theorem dX7_readsTitle_43 : decode cX7_readsTitle 43 = .ok (.isub, 1) := by decide +kernel
theorem dX7_readsTitle_44 : decode cX7_readsTitle 44 = .ok (.invokevirtual 126, 3) := by decide +kernel
theorem dX7_readsTitle_47 : decode cX7_readsTitle 47 = .ok (.invokestatic 137, 3) := by decide +kernel
theorem dX7_readsTitle_50 : decode cX7_readsTitle 50 = .ok (.ifCond .eq 7, 3) := by decide +kernel
theorem dX7_readsTitle_53 : decode cX7_readsTitle 53 = .ok (.iconst 1, 1) := by decide +kernel
theorem dX7_readsTitle_54 : decode cX7_readsTitle 54 = .ok (.goto 4, 3) := by decide +kernel
theorem dX7_readsTitle_57 : decode cX7_readsTitle 57 = .ok (.iconst 0, 1) := by decide +kernel
theorem dX7_readsTitle_58 : decode cX7_readsTitle 58 = .ok (.istore 4, 2) := by decide +kernel
theorem dX7_readsTitle_60 : decode cX7_readsTitle 60 = .ok (.iload_n 2, 1) := by decide +kernel
theorem dX7_readsTitle_61 : decode cX7_readsTitle 61 = .ok (.invokestatic 137, 3) := by decide +kernel
theorem dX7_readsTitle_64 : decode cX7_readsTitle 64 = .ok (.ifCond .eq 9, 3) := by decide +kernel
theorem dX7_readsTitle_67 : decode cX7_readsTitle 67 = .ok (.iload_n 3, 1) := by decide +kernel
theorem dX7_readsTitle_68 : decode cX7_readsTitle 68 = .ok (.bipush 24, 2) := by decide +kernel
theorem dX7_readsTitle_70 : decode cX7_readsTitle 70 = .ok (.if_icmp .lt 20, 3) := by decide +kernel
theorem dX7_readsTitle_73 : decode cX7_readsTitle 73 = .ok (.iload_n 2, 1) := by decide +kernel
theorem dX7_readsTitle_74 : decode cX7_readsTitle 74 = .ok (.bipush 32, 2) := by decide +kernel
theorem dX7_readsTitle_76 : decode cX7_readsTitle 76 = .ok (.if_icmp .ne 18, 3) := by decide +kernel
theorem dX7_readsTitle_79 : decode cX7_readsTitle 79 = .ok (.iload 4, 2) := by decide +kernel
theorem dX7_readsTitle_81 : decode cX7_readsTitle 81 = .ok (.ifCond .eq 13, 3) := by decide +kernel
theorem dX7_readsTitle_84 : decode cX7_readsTitle 84 = .ok (.iload_n 3, 1) := by decide +kernel
theorem dX7_readsTitle_85 : decode cX7_readsTitle 85 = .ok (.bipush 23, 2) := by decide +kernel
theorem dX7_readsTitle_87 : decode cX7_readsTitle 87 = .ok (.if_icmp .ge 7, 3) := by decide +kernel
theorem dX7_readsTitle_90 : decode cX7_readsTitle 90 = .ok (.iconst 1, 1) := by decide +kernel
theorem dX7_readsTitle_91 : decode cX7_readsTitle 91 = .ok (.goto 4, 3) := by decide +kernel
theorem dX7_readsTitle_94 : decode cX7_readsTitle 94 = .ok (.iconst 0, 1) := by decide +kernel
theorem dX7_readsTitle_95 : decode cX7_readsTitle 95 = .ok (.istore_n 1, 1) := by decide +kernel
theorem dX7_readsTitle_96 : decode cX7_readsTitle 96 = .ok (.aload_n 0, 1) := by decide +kernel
theorem dX7_readsTitle_97 : decode cX7_readsTitle 97 = .ok (.dup, 1) := by decide +kernel
theorem dX7_readsTitle_98 : decode cX7_readsTitle 98 = .ok (.getfield 123, 3) := by decide +kernel
theorem dX7_readsTitle_101 : decode cX7_readsTitle 101 = .ok (.iload_n 1, 1) := by decide +kernel
theorem dX7_readsTitle_102 : decode cX7_readsTitle 102 = .ok (.ifCond .eq 7, 3) := by decide +kernel
theorem dX7_readsTitle_105 : decode cX7_readsTitle 105 = .ok (.iconst 1, 1) := by decide +kernel
theorem dX7_readsTitle_106 : decode cX7_readsTitle 106 = .ok (.goto 4, 3) := by decide +kernel
theorem dX7_readsTitle_109 : decode cX7_readsTitle 109 = .ok (.iconst 0, 1) := by decide +kernel
theorem dX7_readsTitle_110 : decode cX7_readsTitle 110 = .ok (.iadd, 1) := by decide +kernel
theorem dX7_readsTitle_111 : decode cX7_readsTitle 111 = .ok (.putfield 123, 3) := by decide +kernel
theorem dX7_readsTitle_114 : decode cX7_readsTitle 114 = .ok (.goto (-104), 3) := by decide +kernel
theorem dX7_readsTitle_117 : decode cX7_readsTitle 117 = .ok (.aload_n 0, 1) := by decide +kernel
theorem dX7_readsTitle_118 : decode cX7_readsTitle 118 = .ok (.aload_n 0, 1) := by decide +kernel
theorem dX7_readsTitle_119 : decode cX7_readsTitle 119 = .ok (.getfield 123, 3) := by decide +kernel
theorem dX7_readsTitle_122 : decode cX7_readsTitle 122 = .ok (.putfield 140, 3) := by decide +kernel
theorem dX7_readsTitle_125 : decode cX7_readsTitle 125 = .ok (.aload_n 0, 1) := by decide +kernel
theorem dX7_readsTitle_126 : decode cX7_readsTitle 126 = .ok (.getfield 123, 3) := by decide +kernel
theorem dX7_readsTitle_129 : decode cX7_readsTitle 129 = .ok (.aload_n 0, 1) := by decide +kernel
theorem dX7_readsTitle_130 : decode cX7_readsTitle 130 = .ok (.getfield 134, 3) := by decide +kernel
theorem dX7_readsTitle_133 : decode cX7_readsTitle 133 = .ok (.if_icmp .le 23, 3) := by decide +kernel
theorem dX7_readsTitle_136 : decode cX7_readsTitle 136 = .ok (.aload_n 0, 1) := by decide +kernel
theorem dX7_readsTitle_137 : decode cX7_readsTitle 137 = .ok (.aload_n 0, 1) := by decide +kernel
theorem dX7_readsTitle_138 : decode cX7_readsTitle 138 = .ok (.getfield 123, 3) := by decide +kernel
theorem dX7_readsTitle_141 : decode cX7_readsTitle 141 = .ok (.iconst 1, 1) := by decide +kernel
theorem dX7_readsTitle_142 : decode cX7_readsTitle 142 = .ok (.isub, 1) := by decide +kernel
theorem dX7_readsTitle_143 : decode cX7_readsTitle 143 = .ok (.invokevirtual 126, 3) := by decide +kernel
theorem dX7_readsTitle_146 : decode cX7_readsTitle 146 = .ok (.invokestatic 137, 3) := by decide +kernel
theorem dX7_readsTitle_149 : decode cX7_readsTitle 149 = .ok (.ifCond .eq 7, 3) := by decide +kernel
theorem dX7_readsTitle_152 : decode cX7_readsTitle 152 = .ok (.iconst 1, 1) := by decide +kernel
theorem dX7_readsTitle_153 : decode cX7_readsTitle 153 = .ok (.goto 4, 3) := by decide +kernel
theorem dX7_readsTitle_156 : decode cX7_readsTitle 156 = .ok (.iconst 0, 1) := by decide +kernel
theorem dX7_readsTitle_157 : decode cX7_readsTitle 157 = .ok (.ireturn, 1) := by decide +kernel
theorem dX7_readsNumber_0 : decode cX7_readsNumber 0 = .ok (.aload_n 0, 1) := by decide +kernel
theorem dX7_readsNumber_1 : decode cX7_readsNumber 1 = .ok (.iconst 0, 1) := by decide +kernel
theorem dX7_readsNumber_2 : decode cX7_readsNumber 2 = .ok (.putfield 143, 3) := by decide +kernel
theorem dX7_readsNumber_5 : decode cX7_readsNumber 5 = .ok (.iconst 0, 1) := by decide +kernel
theorem dX7_readsNumber_6 : decode cX7_readsNumber 6 = .ok (.istore_n 1, 1) := by decide +kernel
theorem dX7_readsNumber_7 : decode cX7_readsNumber 7 = .ok (.iload_n 1, 1) := by decide +kernel
theorem dX7_readsNumber_8 : decode cX7_readsNumber 8 = .ok (.iconst 2, 1) := by decide +kernel
theorem dX7_readsNumber_9 : decode cX7_readsNumber 9 = .ok (.if_icmp .ge 60, 3) := by decide +kernel
theorem dX7_readsNumber_12 : decode cX7_readsNumber 12 = .ok (.aload_n 0, 1) := by decide +kernel
theorem dX7_readsNumber_13 : decode cX7_readsNumber 13 = .ok (.aload_n 0, 1) := by decide +kernel
theorem dX7_readsNumber_14 : decode cX7_readsNumber 14 = .ok (.getfield 123, 3) := by decide +kernel
theorem dX7_readsNumber_17 : decode cX7_readsNumber 17 = .ok (.invokevirtual 126, 3) := by decide +kernel
theorem dX7_readsNumber_20 : decode cX7_readsNumber 20 = .ok (.bipush 48, 2) := by decide +kernel
theorem dX7_readsNumber_22 : decode cX7_readsNumber 22 = .ok (.bipush 57, 2) := by decide +kernel
theorem dX7_readsNumber_24 : decode cX7_readsNumber 24 = .ok (.invokestatic 47, 3) := by decide +kernel
theorem dX7_readsNumber_27 : decode cX7_readsNumber 27 = .ok (.ifCond .eq 42, 3) := by decide +kernel
theorem dX7_readsNumber_30 : decode cX7_readsNumber 30 = .ok (.aload_n 0, 1) := by decide +kernel
theorem dX7_readsNumber_31 : decode cX7_readsNumber 31 = .ok (.bipush 10, 2) := by decide +kernel
theorem dX7_readsNumber_33 : decode cX7_readsNumber 33 = .ok (.aload_n 0, 1) := by decide +kernel
theorem dX7_readsNumber_34 : decode cX7_readsNumber 34 = .ok (.getfield 143, 3) := by decide +kernel
theorem dX7_readsNumber_37 : decode cX7_readsNumber 37 = .ok (.imul, 1) := by decide +kernel
theorem dX7_readsNumber_38 : decode cX7_readsNumber 38 = .ok (.aload_n 0, 1) := by decide +kernel
theorem dX7_readsNumber_39 : decode cX7_readsNumber 39 = .ok (.aload_n 0, 1) := by decide +kernel
theorem dX7_readsNumber_40 : decode cX7_readsNumber 40 = .ok (.getfield 123, 3) := by decide +kernel
theorem dX7_readsNumber_43 : decode cX7_readsNumber 43 = .ok (.invokevirtual 126, 3) := by decide +kernel
theorem dX7_readsNumber_46 : decode cX7_readsNumber 46 = .ok (.iadd, 1) := by decide +kernel
theorem dX7_readsNumber_47 : decode cX7_readsNumber 47 = .ok (.bipush 48, 2) := by decide +kernel
theorem dX7_readsNumber_49 : decode cX7_readsNumber 49 = .ok (.isub, 1) := by decide +kernel
theorem dX7_readsNumber_50 : decode cX7_readsNumber 50 = .ok (.putfield 143, 3) := by decide +kernel
theorem dX7_readsNumber_53 : decode cX7_readsNumber 53 = .ok (.iinc 1 1, 3) := by decide +kernel
theorem dX7_readsNumber_56 : decode cX7_readsNumber 56 = .ok (.aload_n 0, 1) := by decide +kernel
theorem dX7_readsNumber_57 : decode cX7_readsNumber 57 = .ok (.dup, 1) := by decide +kernel
theorem dX7_readsNumber_58 : decode cX7_readsNumber 58 = .ok (.getfield 123, 3) := by decide +kernel
theorem dX7_readsNumber_61 : decode cX7_readsNumber 61 = .ok (.iconst 1, 1) := by decide +kernel
theorem dX7_readsNumber_62 : decode cX7_readsNumber 62 = .ok (.iadd, 1) := by decide +kernel
theorem dX7_readsNumber_63 : decode cX7_readsNumber 63 = .ok (.putfield 123, 3) := by decide +kernel
theorem dX7_readsNumber_66 : decode cX7_readsNumber 66 = .ok (.goto (-59), 3) := by decide +kernel
theorem dX7_readsNumber_69 : decode cX7_readsNumber 69 = .ok (.iload_n 1, 1) := by decide +kernel
theorem dX7_readsNumber_70 : decode cX7_readsNumber 70 = .ok (.ifCond .le 7, 3) := by decide +kernel
theorem dX7_readsNumber_73 : decode cX7_readsNumber 73 = .ok (.iconst 1, 1) := by decide +kernel
theorem dX7_readsNumber_74 : decode cX7_readsNumber 74 = .ok (.goto 4, 3) := by decide +kernel
theorem dX7_readsNumber_77 : decode cX7_readsNumber 77 = .ok (.iconst 0, 1) := by decide +kernel
theorem dX7_readsNumber_78 : decode cX7_readsNumber 78 = .ok (.ireturn, 1) := by decide +kernel
theorem dX7_readsMode_0 : decode cX7_readsMode 0 = .ok (.aload_n 0, 1) := by decide +kernel
theorem dX7_readsMode_1 : decode cX7_readsMode 1 = .ok (.aload_n 0, 1) := by decide +kernel
theorem dX7_readsMode_2 : decode cX7_readsMode 2 = .ok (.getfield 123, 3) := by decide +kernel
theorem dX7_readsMode_5 : decode cX7_readsMode 5 = .ok (.invokevirtual 126, 3) := by decide +kernel
theorem dX7_readsMode_8 : decode cX7_readsMode 8 = .ok (.istore_n 1, 1) := by decide +kernel
theorem dX7_readsMode_9 : decode cX7_readsMode 9 = .ok (.aload_n 0, 1) := by decide +kernel
theorem dX7_readsMode_10 : decode cX7_readsMode 10 = .ok (.iload_n 1, 1) := by decide +kernel
theorem dX7_readsMode_11 : decode cX7_readsMode 11 = .ok (.bipush 112, 2) := by decide +kernel
theorem dX7_readsMode_13 : decode cX7_readsMode 13 = .ok (.if_icmp .ne 7, 3) := by decide +kernel
theorem dX7_readsMode_16 : decode cX7_readsMode 16 = .ok (.iconst 0, 1) := by decide +kernel
theorem dX7_readsMode_17 : decode cX7_readsMode 17 = .ok (.goto 24, 3) := by decide +kernel
theorem dX7_readsMode_20 : decode cX7_readsMode 20 = .ok (.iload_n 1, 1) := by decide +kernel
theorem dX7_readsMode_21 : decode cX7_readsMode 21 = .ok (.bipush 115, 2) := by decide +kernel
theorem dX7_readsMode_23 : decode cX7_readsMode 23 = .ok (.if_icmp .ne 7, 3) := by decide +kernel
theorem dX7_readsMode_26 : decode cX7_readsMode 26 = .ok (.iconst 1, 1) := by decide +kernel
theorem dX7_readsMode_27 : decode cX7_readsMode 27 = .ok (.goto 14, 3) := by decide +kernel
theorem dX7_readsMode_30 : decode cX7_readsMode 30 = .ok (.iload_n 1, 1) := by decide +kernel
theorem dX7_readsMode_31 : decode cX7_readsMode 31 = .ok (.bipush 119, 2) := by decide +kernel
theorem dX7_readsMode_33 : decode cX7_readsMode 33 = .ok (.if_icmp .ne 7, 3) := by decide +kernel
theorem dX7_readsMode_36 : decode cX7_readsMode 36 = .ok (.iconst 2, 1) := by decide +kernel
theorem dX7_readsMode_37 : decode cX7_readsMode 37 = .ok (.goto 4, 3) := by decide +kernel
theorem dX7_readsMode_40 : decode cX7_readsMode 40 = .ok (.iconst 3, 1) := by decide +kernel
theorem dX7_readsMode_41 : decode cX7_readsMode 41 = .ok (.putfield 143, 3) := by decide +kernel
theorem dX7_readsMode_44 : decode cX7_readsMode 44 = .ok (.aload_n 0, 1) := by decide +kernel
theorem dX7_readsMode_45 : decode cX7_readsMode 45 = .ok (.iload_n 1, 1) := by decide +kernel
theorem dX7_readsMode_46 : decode cX7_readsMode 46 = .ok (.bipush 112, 2) := by decide +kernel
theorem dX7_readsMode_48 : decode cX7_readsMode 48 = .ok (.if_icmp .ne 9, 3) := by decide +kernel
theorem dX7_readsMode_51 : decode cX7_readsMode 51 = .ok (.ldc2_w 146, 3) := by decide +kernel
theorem dX7_readsMode_54 : decode cX7_readsMode 54 = .ok (.goto 30, 3) := by decide +kernel
theorem dX7_readsMode_57 : decode cX7_readsMode 57 = .ok (.iload_n 1, 1) := by decide +kernel
theorem dX7_readsMode_58 : decode cX7_readsMode 58 = .ok (.bipush 115, 2) := by decide +kernel
theorem dX7_readsMode_60 : decode cX7_readsMode 60 = .ok (.if_icmp .ne 9, 3) := by decide +kernel
theorem dX7_readsMode_63 : decode cX7_readsMode 63 = .ok (.ldc2_w 148, 3) := by decide +kernel
theorem dX7_readsMode_66 : decode cX7_readsMode 66 = .ok (.goto 18, 3) := by decide +kernel
theorem dX7_readsMode_69 : decode cX7_readsMode 69 = .ok (.iload_n 1, 1) := by decide +kernel
theorem dX7_readsMode_70 : decode cX7_readsMode 70 = .ok (.bipush 119, 2) := by decide +kernel
theorem dX7_readsMode_72 : decode cX7_readsMode 72 = .ok (.if_icmp .ne 9, 3) := by decide +kernel
theorem dX7_readsMode_75 : decode cX7_readsMode 75 = .ok (.ldc2_w 150, 3) := by decide +kernel
theorem dX7_readsMode_78 : decode cX7_readsMode 78 = .ok (.goto 6, 3) := by decide +kernel
theorem dX7_readsMode_81 : decode cX7_readsMode 81 = .ok (.ldc2_w 152, 3) := by decide +kernel
theorem dX7_readsMode_84 : decode cX7_readsMode 84 = .ok (.invokevirtual 154, 3) := by decide +kernel
theorem dX7_readsMode_87 : decode cX7_readsMode 87 = .ok (.ireturn, 1) := by decide +kernel
theorem dX7_readsOrder_0 : decode cX7_readsOrder 0 = .ok (.aload_n 0, 1) := by decide +kernel
theorem dX7_readsOrder_1 : decode cX7_readsOrder 1 = .ok (.aload_n 0, 1) := by decide +kernel
theorem dX7_readsOrder_2 : decode cX7_readsOrder 2 = .ok (.getfield 123, 3) := by decide +kernel
theorem dX7_readsOrder_5 : decode cX7_readsOrder 5 = .ok (.invokevirtual 126, 3) := by decide +kernel
theorem dX7_readsOrder_8 : decode cX7_readsOrder 8 = .ok (.istore_n 1, 1) := by decide +kernel
theorem dX7_readsOrder_9 : decode cX7_readsOrder 9 = .ok (.aload_n 0, 1) := by decide +kernel
theorem dX7_readsOrder_10 : decode cX7_readsOrder 10 = .ok (.iload_n 1, 1) := by decide +kernel
theorem dX7_readsOrder_11 : decode cX7_readsOrder 11 = .ok (.bipush 112, 2) := by decide +kernel
theorem dX7_readsOrder_13 : decode cX7_readsOrder 13 = .ok (.if_icmp .ne 7, 3) := by decide +kernel
theorem dX7_readsOrder_16 : decode cX7_readsOrder 16 = .ok (.iconst 0, 1) := by decide +kernel
theorem dX7_readsOrder_17 : decode cX7_readsOrder 17 = .ok (.goto 14, 3) := by decide +kernel
theorem dX7_readsOrder_20 : decode cX7_readsOrder 20 = .ok (.iload_n 1, 1) := by decide +kernel
theorem dX7_readsOrder_21 : decode cX7_readsOrder 21 = .ok (.bipush 111, 2) := by decide +kernel
theorem dX7_readsOrder_23 : decode cX7_readsOrder 23 = .ok (.if_icmp .ne 7, 3) := by decide +kernel
theorem dX7_readsOrder_26 : decode cX7_readsOrder 26 = .ok (.iconst 1, 1) := by decide +kernel
theorem dX7_readsOrder_27 : decode cX7_readsOrder 27 = .ok (.goto 4, 3) := by decide +kernel
theorem dX7_readsOrder_30 : decode cX7_readsOrder 30 = .ok (.iconst 2, 1) := by decide +kernel
theorem dX7_readsOrder_31 : decode cX7_readsOrder 31 = .ok (.putfield 143, 3) := by decide +kernel
theorem dX7_readsOrder_34 : decode cX7_readsOrder 34 = .ok (.aload_n 0, 1) := by decide +kernel
theorem dX7_readsOrder_35 : decode cX7_readsOrder 35 = .ok (.iload_n 1, 1) := by decide +kernel
theorem dX7_readsOrder_36 : decode cX7_readsOrder 36 = .ok (.bipush 112, 2) := by decide +kernel
theorem dX7_readsOrder_38 : decode cX7_readsOrder 38 = .ok (.if_icmp .ne 9, 3) := by decide +kernel
theorem dX7_readsOrder_41 : decode cX7_readsOrder 41 = .ok (.ldc2_w 158, 3) := by decide +kernel
theorem dX7_readsOrder_44 : decode cX7_readsOrder 44 = .ok (.goto 18, 3) := by decide +kernel
theorem dX7_readsOrder_47 : decode cX7_readsOrder 47 = .ok (.iload_n 1, 1) := by decide +kernel
theorem dX7_readsOrder_48 : decode cX7_readsOrder 48 = .ok (.bipush 111, 2) := by decide +kernel
theorem dX7_readsOrder_50 : decode cX7_readsOrder 50 = .ok (.if_icmp .ne 9, 3) := by decide +kernel
theorem dX7_readsOrder_53 : decode cX7_readsOrder 53 = .ok (.ldc2_w 160, 3) := by decide +kernel
theorem dX7_readsOrder_56 : decode cX7_readsOrder 56 = .ok (.goto 6, 3) := by decide +kernel
theorem dX7_readsOrder_59 : decode cX7_readsOrder 59 = .ok (.ldc2_w 162, 3) := by decide +kernel
theorem dX7_readsOrder_62 : decode cX7_readsOrder 62 = .ok (.invokevirtual 154, 3) := by decide +kernel
theorem dX7_readsOrder_65 : decode cX7_readsOrder 65 = .ok (.ireturn, 1) := by decide +kernel
theorem dX7_readsAddOrAsk_0 : decode cX7_readsAddOrAsk 0 = .ok (.aload_n 0, 1) := by decide +kernel
theorem dX7_readsAddOrAsk_1 : decode cX7_readsAddOrAsk 1 = .ok (.dup, 1) := by decide +kernel
theorem dX7_readsAddOrAsk_2 : decode cX7_readsAddOrAsk 2 = .ok (.getfield 123, 3) := by decide +kernel
theorem dX7_readsAddOrAsk_5 : decode cX7_readsAddOrAsk 5 = .ok (.iconst 1, 1) := by decide +kernel
theorem dX7_readsAddOrAsk_6 : decode cX7_readsAddOrAsk 6 = .ok (.iadd, 1) := by decide +kernel
theorem dX7_readsAddOrAsk_7 : decode cX7_readsAddOrAsk 7 = .ok (.putfield 123, 3) := by decide +kernel
theorem dX7_readsAddOrAsk_10 : decode cX7_readsAddOrAsk 10 = .ok (.aload_n 0, 1) := by decide +kernel
theorem dX7_readsAddOrAsk_11 : decode cX7_readsAddOrAsk 11 = .ok (.aload_n 0, 1) := by decide +kernel
theorem dX7_readsAddOrAsk_12 : decode cX7_readsAddOrAsk 12 = .ok (.aload_n 0, 1) := by decide +kernel
theorem dX7_readsAddOrAsk_13 : decode cX7_readsAddOrAsk 13 = .ok (.getfield 123, 3) := by decide +kernel
theorem dX7_readsAddOrAsk_16 : decode cX7_readsAddOrAsk 16 = .ok (.invokevirtual 126, 3) := by decide +kernel
theorem dX7_readsAddOrAsk_19 : decode cX7_readsAddOrAsk 19 = .ok (.bipush 115, 2) := by decide +kernel
theorem dX7_readsAddOrAsk_21 : decode cX7_readsAddOrAsk 21 = .ok (.if_icmp .ne 8, 3) := by decide +kernel
theorem dX7_readsAddOrAsk_24 : decode cX7_readsAddOrAsk 24 = .ok (.bipush 115, 2) := by decide +kernel
theorem dX7_readsAddOrAsk_26 : decode cX7_readsAddOrAsk 26 = .ok (.goto 5, 3) := by decide +kernel
theorem dX7_readsAddOrAsk_29 : decode cX7_readsAddOrAsk 29 = .ok (.bipush 97, 2) := by decide +kernel
theorem dX7_readsAddOrAsk_31 : decode cX7_readsAddOrAsk 31 = .ok (.putfield 164, 3) := by decide +kernel
theorem dX7_readsAddOrAsk_34 : decode cX7_readsAddOrAsk 34 = .ok (.aload_n 0, 1) := by decide +kernel
theorem dX7_readsAddOrAsk_35 : decode cX7_readsAddOrAsk 35 = .ok (.aload_n 0, 1) := by decide +kernel
theorem dX7_readsAddOrAsk_36 : decode cX7_readsAddOrAsk 36 = .ok (.getfield 164, 3) := by decide +kernel
theorem dX7_readsAddOrAsk_39 : decode cX7_readsAddOrAsk 39 = .ok (.bipush 115, 2) := by decide +kernel
theorem dX7_readsAddOrAsk_41 : decode cX7_readsAddOrAsk 41 = .ok (.if_icmp .ne 9, 3) := by decide +kernel
theorem dX7_readsAddOrAsk_44 : decode cX7_readsAddOrAsk 44 = .ok (.ldc2_w 167, 3) := by decide +kernel
theorem dX7_readsAddOrAsk_47 : decode cX7_readsAddOrAsk 47 = .ok (.goto 6, 3) := by decide +kernel
theorem dX7_readsAddOrAsk_50 : decode cX7_readsAddOrAsk 50 = .ok (.ldc2_w 169, 3) := by decide +kernel
theorem dX7_readsAddOrAsk_53 : decode cX7_readsAddOrAsk 53 = .ok (.invokevirtual 154, 3) := by decide +kernel
theorem dX7_readsAddOrAsk_56 : decode cX7_readsAddOrAsk 56 = .ok (.ifCond .eq 14, 3) := by decide +kernel
theorem dX7_readsAddOrAsk_59 : decode cX7_readsAddOrAsk 59 = .ok (.aload_n 0, 1) := by decide +kernel
theorem dX7_readsAddOrAsk_60 : decode cX7_readsAddOrAsk 60 = .ok (.invokevirtual 171, 3) := by decide +kernel
theorem dX7_readsAddOrAsk_63 : decode cX7_readsAddOrAsk 63 = .ok (.ifCond .eq 7, 3) := by decide +kernel
theorem dX7_readsAddOrAsk_66 : decode cX7_readsAddOrAsk 66 = .ok (.iconst 1, 1) := by decide +kernel
theorem dX7_readsAddOrAsk_67 : decode cX7_readsAddOrAsk 67 = .ok (.goto 4, 3) := by decide +kernel
theorem dX7_readsAddOrAsk_70 : decode cX7_readsAddOrAsk 70 = .ok (.iconst 0, 1) := by decide +kernel
theorem dX7_readsAddOrAsk_71 : decode cX7_readsAddOrAsk 71 = .ok (.ireturn, 1) := by decide +kernel
theorem dX7_readsCommand_0 : decode cX7_readsCommand 0 = .ok (.aload_n 0, 1) := by decide +kernel
theorem dX7_readsCommand_1 : decode cX7_readsCommand 1 = .ok (.aload_n 0, 1) := by decide +kernel
theorem dX7_readsCommand_2 : decode cX7_readsCommand 2 = .ok (.aload_n 0, 1) := by decide +kernel
theorem dX7_readsCommand_3 : decode cX7_readsCommand 3 = .ok (.getfield 123, 3) := by decide +kernel
theorem dX7_readsCommand_6 : decode cX7_readsCommand 6 = .ok (.invokevirtual 126, 3) := by decide +kernel
theorem dX7_readsCommand_9 : decode cX7_readsCommand 9 = .ok (.putfield 164, 3) := by decide +kernel
theorem dX7_readsCommand_12 : decode cX7_readsCommand 12 = .ok (.aload_n 0, 1) := by decide +kernel
theorem dX7_readsCommand_13 : decode cX7_readsCommand 13 = .ok (.getfield 164, 3) := by decide +kernel
theorem dX7_readsCommand_16 : decode cX7_readsCommand 16 = .ok (.tableswitch 185 97 112 #[80, 185, 177, 85, 185, 185, 185, 185, 185, 185, 185, 185, 108, 185, 131, 154], 80) := by decide +kernel
theorem dX7_readsCommand_96 : decode cX7_readsCommand 96 = .ok (.aload_n 0, 1) := by decide +kernel
theorem dX7_readsCommand_97 : decode cX7_readsCommand 97 = .ok (.invokevirtual 175, 3) := by decide +kernel
theorem dX7_readsCommand_100 : decode cX7_readsCommand 100 = .ok (.ireturn, 1) := by decide +kernel
theorem dX7_readsCommand_101 : decode cX7_readsCommand 101 = .ok (.aload_n 0, 1) := by decide +kernel
theorem dX7_readsCommand_102 : decode cX7_readsCommand 102 = .ok (.ldc2_w 178, 3) := by decide +kernel
theorem dX7_readsCommand_105 : decode cX7_readsCommand 105 = .ok (.invokevirtual 154, 3) := by decide +kernel
theorem dX7_readsCommand_108 : decode cX7_readsCommand 108 = .ok (.ifCond .eq 14, 3) := by decide +kernel
theorem dX7_readsCommand_111 : decode cX7_readsCommand 111 = .ok (.aload_n 0, 1) := by decide +kernel
theorem dX7_readsCommand_112 : decode cX7_readsCommand 112 = .ok (.invokevirtual 180, 3) := by decide +kernel
theorem dX7_readsCommand_115 : decode cX7_readsCommand 115 = .ok (.ifCond .eq 7, 3) := by decide +kernel
theorem dX7_readsCommand_118 : decode cX7_readsCommand 118 = .ok (.iconst 1, 1) := by decide +kernel
theorem dX7_readsCommand_119 : decode cX7_readsCommand 119 = .ok (.goto 4, 3) := by decide +kernel
theorem dX7_readsCommand_122 : decode cX7_readsCommand 122 = .ok (.iconst 0, 1) := by decide +kernel
theorem dX7_readsCommand_123 : decode cX7_readsCommand 123 = .ok (.ireturn, 1) := by decide +kernel
theorem dX7_readsCommand_124 : decode cX7_readsCommand 124 = .ok (.aload_n 0, 1) := by decide +kernel
theorem dX7_readsCommand_125 : decode cX7_readsCommand 125 = .ok (.ldc2_w 183, 3) := by decide +kernel
theorem dX7_readsCommand_128 : decode cX7_readsCommand 128 = .ok (.invokevirtual 154, 3) := by decide +kernel
theorem dX7_readsCommand_131 : decode cX7_readsCommand 131 = .ok (.ifCond .eq 14, 3) := by decide +kernel
theorem dX7_readsCommand_134 : decode cX7_readsCommand 134 = .ok (.aload_n 0, 1) := by decide +kernel
theorem dX7_readsCommand_135 : decode cX7_readsCommand 135 = .ok (.invokevirtual 185, 3) := by decide +kernel
theorem dX7_readsCommand_138 : decode cX7_readsCommand 138 = .ok (.ifCond .eq 7, 3) := by decide +kernel
theorem dX7_readsCommand_141 : decode cX7_readsCommand 141 = .ok (.iconst 1, 1) := by decide +kernel
theorem dX7_readsCommand_142 : decode cX7_readsCommand 142 = .ok (.goto 4, 3) := by decide +kernel
theorem dX7_readsCommand_145 : decode cX7_readsCommand 145 = .ok (.iconst 0, 1) := by decide +kernel
theorem dX7_readsCommand_146 : decode cX7_readsCommand 146 = .ok (.ireturn, 1) := by decide +kernel
theorem dX7_readsCommand_147 : decode cX7_readsCommand 147 = .ok (.aload_n 0, 1) := by decide +kernel
theorem dX7_readsCommand_148 : decode cX7_readsCommand 148 = .ok (.ldc2_w 188, 3) := by decide +kernel
theorem dX7_readsCommand_151 : decode cX7_readsCommand 151 = .ok (.invokevirtual 154, 3) := by decide +kernel
theorem dX7_readsCommand_154 : decode cX7_readsCommand 154 = .ok (.ifCond .eq 14, 3) := by decide +kernel
theorem dX7_readsCommand_157 : decode cX7_readsCommand 157 = .ok (.aload_n 0, 1) := by decide +kernel
theorem dX7_readsCommand_158 : decode cX7_readsCommand 158 = .ok (.invokevirtual 190, 3) := by decide +kernel
theorem dX7_readsCommand_161 : decode cX7_readsCommand 161 = .ok (.ifCond .eq 7, 3) := by decide +kernel
theorem dX7_readsCommand_164 : decode cX7_readsCommand 164 = .ok (.iconst 1, 1) := by decide +kernel
theorem dX7_readsCommand_165 : decode cX7_readsCommand 165 = .ok (.goto 4, 3) := by decide +kernel
theorem dX7_readsCommand_168 : decode cX7_readsCommand 168 = .ok (.iconst 0, 1) := by decide +kernel
theorem dX7_readsCommand_169 : decode cX7_readsCommand 169 = .ok (.ireturn, 1) := by decide +kernel
theorem dX7_readsCommand_170 : decode cX7_readsCommand 170 = .ok (.aload_n 0, 1) := by decide +kernel
theorem dX7_readsCommand_171 : decode cX7_readsCommand 171 = .ok (.ldc2_w 193, 3) := by decide +kernel
theorem dX7_readsCommand_174 : decode cX7_readsCommand 174 = .ok (.invokevirtual 154, 3) := by decide +kernel
theorem dX7_readsCommand_177 : decode cX7_readsCommand 177 = .ok (.ifCond .eq 14, 3) := by decide +kernel
theorem dX7_readsCommand_180 : decode cX7_readsCommand 180 = .ok (.aload_n 0, 1) := by decide +kernel
theorem dX7_readsCommand_181 : decode cX7_readsCommand 181 = .ok (.invokevirtual 180, 3) := by decide +kernel
theorem dX7_readsCommand_184 : decode cX7_readsCommand 184 = .ok (.ifCond .eq 7, 3) := by decide +kernel
theorem dX7_readsCommand_187 : decode cX7_readsCommand 187 = .ok (.iconst 1, 1) := by decide +kernel
theorem dX7_readsCommand_188 : decode cX7_readsCommand 188 = .ok (.goto 4, 3) := by decide +kernel
theorem dX7_readsCommand_191 : decode cX7_readsCommand 191 = .ok (.iconst 0, 1) := by decide +kernel
theorem dX7_readsCommand_192 : decode cX7_readsCommand 192 = .ok (.ireturn, 1) := by decide +kernel
theorem dX7_readsCommand_193 : decode cX7_readsCommand 193 = .ok (.aload_n 0, 1) := by decide +kernel
theorem dX7_readsCommand_194 : decode cX7_readsCommand 194 = .ok (.ldc2_w 195, 3) := by decide +kernel
theorem dX7_readsCommand_197 : decode cX7_readsCommand 197 = .ok (.invokevirtual 154, 3) := by decide +kernel
theorem dX7_readsCommand_200 : decode cX7_readsCommand 200 = .ok (.ireturn, 1) := by decide +kernel
theorem dX7_readsCommand_201 : decode cX7_readsCommand 201 = .ok (.iconst 0, 1) := by decide +kernel
theorem dX7_readsCommand_202 : decode cX7_readsCommand 202 = .ok (.ireturn, 1) := by decide +kernel
theorem dX7_findError_0 : decode cX7_findError 0 = .ok (.aload_n 0, 1) := by decide +kernel
theorem dX7_findError_1 : decode cX7_findError 1 = .ok (.iconst 0, 1) := by decide +kernel
theorem dX7_findError_2 : decode cX7_findError 2 = .ok (.putfield 123, 3) := by decide +kernel
theorem dX7_findError_5 : decode cX7_findError 5 = .ok (.aload_n 0, 1) := by decide +kernel
theorem dX7_findError_6 : decode cX7_findError 6 = .ok (.invokevirtual 197, 3) := by decide +kernel
theorem dX7_findError_9 : decode cX7_findError 9 = .ok (.ifCond .ne 8, 3) := by decide +kernel
theorem dX7_findError_12 : decode cX7_findError 12 = .ok (.aload_n 0, 1) := by decide +kernel
theorem dX7_findError_13 : decode cX7_findError 13 = .ok (.getfield 123, 3) := by decide +kernel
theorem dX7_findError_16 : decode cX7_findError 16 = .ok (.ireturn, 1) := by decide +kernel
theorem dX7_findError_17 : decode cX7_findError 17 = .ok (.aload_n 0, 1) := by decide +kernel
theorem dX7_findError_18 : decode cX7_findError 18 = .ok (.getfield 123, 3) := by decide +kernel
theorem dX7_findError_21 : decode cX7_findError 21 = .ok (.aload_n 0, 1) := by decide +kernel
theorem dX7_findError_22 : decode cX7_findError 22 = .ok (.getfield 120, 3) := by decide +kernel
theorem dX7_findError_25 : decode cX7_findError 25 = .ok (.if_icmp .ne 6, 3) := by decide +kernel
theorem dX7_findError_28 : decode cX7_findError 28 = .ok (.bipush (-6), 2) := by decide +kernel
theorem dX7_findError_30 : decode cX7_findError 30 = .ok (.ireturn, 1) := by decide +kernel
theorem dX7_findError_31 : decode cX7_findError 31 = .ok (.aload_n 0, 1) := by decide +kernel
theorem dX7_findError_32 : decode cX7_findError 32 = .ok (.bipush 59, 2) := by decide +kernel
theorem dX7_findError_34 : decode cX7_findError 34 = .ok (.invokevirtual 131, 3) := by decide +kernel
theorem dX7_findError_37 : decode cX7_findError 37 = .ok (.ifCond .ne (-32), 3) := by decide +kernel
theorem dX7_findError_40 : decode cX7_findError 40 = .ok (.aload_n 0, 1) := by decide +kernel
theorem dX7_findError_41 : decode cX7_findError 41 = .ok (.getfield 123, 3) := by decide +kernel
theorem dX7_findError_44 : decode cX7_findError 44 = .ok (.ireturn, 1) := by decide +kernel
theorem dX7_syntaxError_0 : decode cX7_syntaxError 0 = .ok (.aload_n 0, 1) := by decide +kernel
theorem dX7_syntaxError_1 : decode cX7_syntaxError 1 = .ok (.invokevirtual 200, 3) := by decide +kernel
theorem dX7_syntaxError_4 : decode cX7_syntaxError 4 = .ok (.ireturn, 1) := by decide +kernel
theorem dX7_isThere_0 : decode cX7_isThere 0 = .ok (.iconst 0, 1) := by decide +kernel
theorem dX7_isThere_1 : decode cX7_isThere 1 = .ok (.istore_n 3, 1) := by decide +kernel
theorem dX7_isThere_2 : decode cX7_isThere 2 = .ok (.iconst 0, 1) := by decide +kernel
theorem dX7_isThere_3 : decode cX7_isThere 3 = .ok (.istore 4, 2) := by decide +kernel
theorem dX7_isThere_5 : decode cX7_isThere 5 = .ok (.iload 4, 2) := by decide +kernel
theorem dX7_isThere_7 : decode cX7_isThere 7 = .ok (.aload_n 0, 1) := by decide +kernel
theorem dX7_isThere_8 : decode cX7_isThere 8 = .ok (.getfield 7, 3) := by decide +kernel
theorem dX7_isThere_11 : decode cX7_isThere 11 = .ok (.iconst 0, 1) := by decide +kernel
theorem dX7_isThere_12 : decode cX7_isThere 12 = .ok (.iaload, 1) := by decide +kernel
theorem dX7_isThere_13 : decode cX7_isThere 13 = .ok (.if_icmp .ge 95, 3) := by decide +kernel
theorem dX7_isThere_16 : decode cX7_isThere 16 = .ok (.aload_n 0, 1) := by decide +kernel
theorem dX7_isThere_17 : decode cX7_isThere 17 = .ok (.iload 4, 2) := by decide +kernel
theorem dX7_isThere_19 : decode cX7_isThere 19 = .ok (.invokevirtual 58, 3) := by decide +kernel
theorem dX7_isThere_22 : decode cX7_isThere 22 = .ok (.iload_n 2, 1) := by decide +kernel
theorem dX7_isThere_23 : decode cX7_isThere 23 = .ok (.iload_n 1, 1) := by decide +kernel
theorem dX7_isThere_24 : decode cX7_isThere 24 = .ok (.isub, 1) := by decide +kernel
theorem dX7_isThere_25 : decode cX7_isThere 25 = .ok (.if_icmp .ne 7, 3) := by decide +kernel
theorem dX7_isThere_28 : decode cX7_isThere 28 = .ok (.iconst 1, 1) := by decide +kernel
theorem dX7_isThere_29 : decode cX7_isThere 29 = .ok (.goto 4, 3) := by decide +kernel
theorem dX7_isThere_32 : decode cX7_isThere 32 = .ok (.iconst 0, 1) := by decide +kernel
theorem dX7_isThere_33 : decode cX7_isThere 33 = .ok (.istore 5, 2) := by decide +kernel
theorem dX7_isThere_35 : decode cX7_isThere 35 = .ok (.iconst 0, 1) := by decide +kernel
theorem dX7_isThere_36 : decode cX7_isThere 36 = .ok (.istore 6, 2) := by decide +kernel
theorem dX7_isThere_38 : decode cX7_isThere 38 = .ok (.iload 6, 2) := by decide +kernel
theorem dX7_isThere_40 : decode cX7_isThere 40 = .ok (.aload_n 0, 1) := by decide +kernel
theorem dX7_isThere_41 : decode cX7_isThere 41 = .ok (.iload 4, 2) := by decide +kernel
theorem dX7_isThere_43 : decode cX7_isThere 43 = .ok (.invokevirtual 58, 3) := by decide +kernel
theorem dX7_isThere_46 : decode cX7_isThere 46 = .ok (.if_icmp .ge 41, 3) := by decide +kernel
theorem dX7_isThere_49 : decode cX7_isThere 49 = .ok (.iload 5, 2) := by decide +kernel
theorem dX7_isThere_51 : decode cX7_isThere 51 = .ok (.ifCond .eq 36, 3) := by decide +kernel
theorem dX7_isThere_54 : decode cX7_isThere 54 = .ok (.aload_n 0, 1) := by decide +kernel
theorem dX7_isThere_55 : decode cX7_isThere 55 = .ok (.iload 4, 2) := by decide +kernel
theorem dX7_isThere_57 : decode cX7_isThere 57 = .ok (.iload 6, 2) := by decide +kernel
theorem dX7_isThere_59 : decode cX7_isThere 59 = .ok (.invokevirtual 55, 3) := by decide +kernel
theorem dX7_isThere_62 : decode cX7_isThere 62 = .ok (.aload_n 0, 1) := by decide +kernel
theorem dX7_isThere_63 : decode cX7_isThere 63 = .ok (.getfield 16, 3) := by decide +kernel
theorem dX7_isThere_66 : decode cX7_isThere 66 = .ok (.iload_n 1, 1) := by decide +kernel
theorem dX7_isThere_67 : decode cX7_isThere 67 = .ok (.iload 6, 2) := by decide +kernel
theorem dX7_isThere_69 : decode cX7_isThere 69 = .ok (.iadd, 1) := by decide +kernel
theorem dX7_isThere_70 : decode cX7_isThere 70 = .ok (.iaload, 1) := by decide +kernel
theorem dX7_isThere_71 : decode cX7_isThere 71 = .ok (.if_icmp .ne 7, 3) := by decide +kernel
theorem dX7_isThere_74 : decode cX7_isThere 74 = .ok (.iconst 1, 1) := by decide +kernel
theorem dX7_isThere_75 : decode cX7_isThere 75 = .ok (.goto 4, 3) := by decide +kernel
theorem dX7_isThere_78 : decode cX7_isThere 78 = .ok (.iconst 0, 1) := by decide +kernel
theorem dX7_isThere_79 : decode cX7_isThere 79 = .ok (.istore 5, 2) := by decide +kernel
theorem dX7_isThere_81 : decode cX7_isThere 81 = .ok (.iinc 6 1, 3) := by decide +kernel
theorem dX7_isThere_84 : decode cX7_isThere 84 = .ok (.goto (-46), 3) := by decide +kernel
theorem dX7_isThere_87 : decode cX7_isThere 87 = .ok (.iload_n 3, 1) := by decide +kernel
theorem dX7_isThere_88 : decode cX7_isThere 88 = .ok (.ifCond .ne 8, 3) := by decide +kernel
theorem dX7_isThere_91 : decode cX7_isThere 91 = .ok (.iload 5, 2) := by decide +kernel
theorem dX7_isThere_93 : decode cX7_isThere 93 = .ok (.ifCond .eq 7, 3) := by decide +kernel
theorem dX7_isThere_96 : decode cX7_isThere 96 = .ok (.iconst 1, 1) := by decide +kernel
theorem dX7_isThere_97 : decode cX7_isThere 97 = .ok (.goto 4, 3) := by decide +kernel
theorem dX7_isThere_100 : decode cX7_isThere 100 = .ok (.iconst 0, 1) := by decide +kernel
theorem dX7_isThere_101 : decode cX7_isThere 101 = .ok (.istore_n 3, 1) := by decide +kernel
theorem dX7_isThere_102 : decode cX7_isThere 102 = .ok (.iinc 4 1, 3) := by decide +kernel
theorem dX7_isThere_105 : decode cX7_isThere 105 = .ok (.goto (-100), 3) := by decide +kernel
theorem dX7_isThere_108 : decode cX7_isThere 108 = .ok (.iload_n 3, 1) := by decide +kernel
theorem dX7_isThere_109 : decode cX7_isThere 109 = .ok (.ireturn, 1) := by decide +kernel
theorem dX7_whyNotAdded_0 : decode cX7_whyNotAdded 0 = .ok (.aload_n 0, 1) := by decide +kernel
theorem dX7_whyNotAdded_1 : decode cX7_whyNotAdded 1 = .ok (.iload_n 1, 1) := by decide +kernel
theorem dX7_whyNotAdded_2 : decode cX7_whyNotAdded 2 = .ok (.iload_n 2, 1) := by decide +kernel
theorem dX7_whyNotAdded_3 : decode cX7_whyNotAdded 3 = .ok (.invokevirtual 204, 3) := by decide +kernel
theorem dX7_whyNotAdded_6 : decode cX7_whyNotAdded 6 = .ok (.ifCond .eq 8, 3) := by decide +kernel
theorem dX7_whyNotAdded_9 : decode cX7_whyNotAdded 9 = .ok (.bipush (-3), 2) := by decide +kernel
theorem dX7_whyNotAdded_11 : decode cX7_whyNotAdded 11 = .ok (.goto 20, 3) := by decide +kernel
theorem dX7_whyNotAdded_14 : decode cX7_whyNotAdded 14 = .ok (.aload_n 0, 1) := by decide +kernel
theorem dX7_whyNotAdded_15 : decode cX7_whyNotAdded 15 = .ok (.getfield 7, 3) := by decide +kernel
theorem dX7_whyNotAdded_18 : decode cX7_whyNotAdded 18 = .ok (.iconst 0, 1) := by decide +kernel
theorem dX7_whyNotAdded_19 : decode cX7_whyNotAdded 19 = .ok (.iaload, 1) := by decide +kernel
theorem dX7_whyNotAdded_20 : decode cX7_whyNotAdded 20 = .ok (.bipush 16, 2) := by decide +kernel
theorem dX7_whyNotAdded_22 : decode cX7_whyNotAdded 22 = .ok (.if_icmp .ne 8, 3) := by decide +kernel
theorem dX7_whyNotAdded_25 : decode cX7_whyNotAdded 25 = .ok (.bipush (-4), 2) := by decide +kernel
theorem dX7_whyNotAdded_27 : decode cX7_whyNotAdded 27 = .ok (.goto 4, 3) := by decide +kernel
theorem dX7_whyNotAdded_30 : decode cX7_whyNotAdded 30 = .ok (.iconst 0, 1) := by decide +kernel
theorem dX7_whyNotAdded_31 : decode cX7_whyNotAdded 31 = .ok (.ireturn, 1) := by decide +kernel
theorem dX7_adds_0 : decode cX7_adds 0 = .ok (.aload_n 0, 1) := by decide +kernel
theorem dX7_adds_1 : decode cX7_adds 1 = .ok (.getfield 7, 3) := by decide +kernel
theorem dX7_adds_4 : decode cX7_adds 4 = .ok (.iconst 0, 1) := by decide +kernel
theorem dX7_adds_5 : decode cX7_adds 5 = .ok (.iaload, 1) := by decide +kernel
theorem dX7_adds_6 : decode cX7_adds 6 = .ok (.istore_n 3, 1) := by decide +kernel
theorem dX7_adds_7 : decode cX7_adds 7 = .ok (.bipush 28, 2) := by decide +kernel
theorem dX7_adds_9 : decode cX7_adds 9 = .ok (.bipush 26, 2) := by decide +kernel
theorem dX7_adds_11 : decode cX7_adds 11 = .ok (.iload_n 3, 1) := by decide +kernel
theorem dX7_adds_12 : decode cX7_adds 12 = .ok (.imul, 1) := by decide +kernel
theorem dX7_adds_13 : decode cX7_adds 13 = .ok (.iadd, 1) := by decide +kernel
theorem dX7_adds_14 : decode cX7_adds 14 = .ok (.istore 4, 2) := by decide +kernel
theorem dX7_adds_16 : decode cX7_adds 16 = .ok (.aload_n 0, 1) := by decide +kernel
theorem dX7_adds_17 : decode cX7_adds 17 = .ok (.getfield 7, 3) := by decide +kernel
theorem dX7_adds_20 : decode cX7_adds 20 = .ok (.iload 4, 2) := by decide +kernel
theorem dX7_adds_22 : decode cX7_adds 22 = .ok (.iconst 0, 1) := by decide +kernel
theorem dX7_adds_23 : decode cX7_adds 23 = .ok (.iadd, 1) := by decide +kernel
theorem dX7_adds_24 : decode cX7_adds 24 = .ok (.iload_n 2, 1) := by decide +kernel
theorem dX7_adds_25 : decode cX7_adds 25 = .ok (.iload_n 1, 1) := by decide +kernel
theorem dX7_adds_26 : decode cX7_adds 26 = .ok (.isub, 1) := by decide +kernel
theorem dX7_adds_27 : decode cX7_adds 27 = .ok (.iastore, 1) := by decide +kernel
theorem dX7_adds_28 : decode cX7_adds 28 = .ok (.aload_n 0, 1) := by decide +kernel
theorem dX7_adds_29 : decode cX7_adds 29 = .ok (.getfield 7, 3) := by decide +kernel
theorem dX7_adds_32 : decode cX7_adds 32 = .ok (.iload 4, 2) := by decide +kernel
theorem dX7_adds_34 : decode cX7_adds 34 = .ok (.iconst 1, 1) := by decide +kernel
theorem dX7_adds_35 : decode cX7_adds 35 = .ok (.iadd, 1) := by decide +kernel
theorem dX7_adds_36 : decode cX7_adds 36 = .ok (.iconst 0, 1) := by decide +kernel
theorem dX7_adds_37 : decode cX7_adds 37 = .ok (.iastore, 1) := by decide +kernel
theorem dX7_adds_38 : decode cX7_adds 38 = .ok (.iconst 0, 1) := by decide +kernel
theorem dX7_adds_39 : decode cX7_adds 39 = .ok (.istore 5, 2) := by decide +kernel
theorem dX7_adds_41 : decode cX7_adds 41 = .ok (.iload 5, 2) := by decide +kernel
theorem dX7_adds_43 : decode cX7_adds 43 = .ok (.bipush 24, 2) := by decide +kernel
theorem dX7_adds_45 : decode cX7_adds 45 = .ok (.if_icmp .ge 42, 3) := by decide +kernel
theorem dX7_adds_48 : decode cX7_adds 48 = .ok (.aload_n 0, 1) := by decide +kernel
theorem dX7_adds_49 : decode cX7_adds 49 = .ok (.getfield 7, 3) := by decide +kernel
theorem dX7_adds_52 : decode cX7_adds 52 = .ok (.iload 4, 2) := by decide +kernel
theorem dX7_adds_54 : decode cX7_adds 54 = .ok (.iconst 2, 1) := by decide +kernel
theorem dX7_adds_55 : decode cX7_adds 55 = .ok (.iadd, 1) := by decide +kernel
theorem dX7_adds_56 : decode cX7_adds 56 = .ok (.iload 5, 2) := by decide +kernel
theorem dX7_adds_58 : decode cX7_adds 58 = .ok (.iadd, 1) := by decide +kernel
theorem dX7_adds_59 : decode cX7_adds 59 = .ok (.iload_n 1, 1) := by decide +kernel
theorem dX7_adds_60 : decode cX7_adds 60 = .ok (.iload 5, 2) := by decide +kernel
theorem dX7_adds_62 : decode cX7_adds 62 = .ok (.iadd, 1) := by decide +kernel
theorem dX7_adds_63 : decode cX7_adds 63 = .ok (.iload_n 2, 1) := by decide +kernel
theorem dX7_adds_64 : decode cX7_adds 64 = .ok (.if_icmp .ge 15, 3) := by decide +kernel
theorem dX7_adds_67 : decode cX7_adds 67 = .ok (.aload_n 0, 1) := by decide +kernel
theorem dX7_adds_68 : decode cX7_adds 68 = .ok (.getfield 16, 3) := by decide +kernel
theorem dX7_adds_71 : decode cX7_adds 71 = .ok (.iload_n 1, 1) := by decide +kernel
theorem dX7_adds_72 : decode cX7_adds 72 = .ok (.iload 5, 2) := by decide +kernel
theorem dX7_adds_74 : decode cX7_adds 74 = .ok (.iadd, 1) := by decide +kernel
theorem dX7_adds_75 : decode cX7_adds 75 = .ok (.iaload, 1) := by decide +kernel
theorem dX7_adds_76 : decode cX7_adds 76 = .ok (.goto 4, 3) := by decide +kernel
theorem dX7_adds_79 : decode cX7_adds 79 = .ok (.iconst 0, 1) := by decide +kernel
theorem dX7_adds_80 : decode cX7_adds 80 = .ok (.iastore, 1) := by decide +kernel
theorem dX7_adds_81 : decode cX7_adds 81 = .ok (.iinc 5 1, 3) := by decide +kernel
theorem dX7_adds_84 : decode cX7_adds 84 = .ok (.goto (-43), 3) := by decide +kernel
theorem dX7_adds_87 : decode cX7_adds 87 = .ok (.aload_n 0, 1) := by decide +kernel
theorem dX7_adds_88 : decode cX7_adds 88 = .ok (.getfield 7, 3) := by decide +kernel
theorem dX7_adds_91 : decode cX7_adds 91 = .ok (.iconst 0, 1) := by decide +kernel
theorem dX7_adds_92 : decode cX7_adds 92 = .ok (.dup2, 1) := by decide +kernel
theorem dX7_adds_93 : decode cX7_adds 93 = .ok (.iaload, 1) := by decide +kernel
theorem dX7_adds_94 : decode cX7_adds 94 = .ok (.iconst 1, 1) := by decide +kernel
theorem dX7_adds_95 : decode cX7_adds 95 = .ok (.iadd, 1) := by decide +kernel
theorem dX7_adds_96 : decode cX7_adds 96 = .ok (.iastore, 1) := by decide +kernel
theorem dX7_adds_97 : decode cX7_adds 97 = .ok (.iload_n 3, 1) := by decide +kernel
theorem dX7_adds_98 : decode cX7_adds 98 = .ok (.ireturn, 1) := by decide +kernel
theorem dX7_drops_0 : decode cX7_drops 0 = .ok (.aload_n 0, 1) := by decide +kernel
theorem dX7_drops_1 : decode cX7_drops 1 = .ok (.getfield 7, 3) := by decide +kernel
theorem dX7_drops_4 : decode cX7_drops 4 = .ok (.iconst 0, 1) := by decide +kernel
theorem dX7_drops_5 : decode cX7_drops 5 = .ok (.dup2, 1) := by decide +kernel
theorem dX7_drops_6 : decode cX7_drops 6 = .ok (.iaload, 1) := by decide +kernel
theorem dX7_drops_7 : decode cX7_drops 7 = .ok (.iconst 1, 1) := by decide +kernel
theorem dX7_drops_8 : decode cX7_drops 8 = .ok (.isub, 1) := by decide +kernel
theorem dX7_drops_9 : decode cX7_drops 9 = .ok (.iastore, 1) := by decide +kernel
theorem dX7_drops_10 : decode cX7_drops 10 = .ok (.bipush 28, 2) := by decide +kernel
theorem dX7_drops_12 : decode cX7_drops 12 = .ok (.bipush 26, 2) := by decide +kernel
theorem dX7_drops_14 : decode cX7_drops 14 = .ok (.iload_n 1, 1) := by decide +kernel
theorem dX7_drops_15 : decode cX7_drops 15 = .ok (.imul, 1) := by decide +kernel
theorem dX7_drops_16 : decode cX7_drops 16 = .ok (.iadd, 1) := by decide +kernel
theorem dX7_drops_17 : decode cX7_drops 17 = .ok (.istore_n 2, 1) := by decide +kernel
theorem dX7_drops_18 : decode cX7_drops 18 = .ok (.iload_n 2, 1) := by decide +kernel
theorem dX7_drops_19 : decode cX7_drops 19 = .ok (.bipush 28, 2) := by decide +kernel
theorem dX7_drops_21 : decode cX7_drops 21 = .ok (.bipush 26, 2) := by decide +kernel
theorem dX7_drops_23 : decode cX7_drops 23 = .ok (.aload_n 0, 1) := by decide +kernel
theorem dX7_drops_24 : decode cX7_drops 24 = .ok (.getfield 7, 3) := by decide +kernel
theorem dX7_drops_27 : decode cX7_drops 27 = .ok (.iconst 0, 1) := by decide +kernel
theorem dX7_drops_28 : decode cX7_drops 28 = .ok (.iaload, 1) := by decide +kernel
theorem dX7_drops_29 : decode cX7_drops 29 = .ok (.imul, 1) := by decide +kernel
theorem dX7_drops_30 : decode cX7_drops 30 = .ok (.iadd, 1) := by decide +kernel
theorem dX7_drops_31 : decode cX7_drops 31 = .ok (.if_icmp .ge 24, 3) := by decide +kernel
theorem dX7_drops_34 : decode cX7_drops 34 = .ok (.aload_n 0, 1) := by decide +kernel
theorem dX7_drops_35 : decode cX7_drops 35 = .ok (.getfield 7, 3) := by decide +kernel
theorem dX7_drops_38 : decode cX7_drops 38 = .ok (.iload_n 2, 1) := by decide +kernel
theorem dX7_drops_39 : decode cX7_drops 39 = .ok (.aload_n 0, 1) := by decide +kernel
theorem dX7_drops_40 : decode cX7_drops 40 = .ok (.getfield 7, 3) := by decide +kernel
theorem dX7_drops_43 : decode cX7_drops 43 = .ok (.iload_n 2, 1) := by decide +kernel
theorem dX7_drops_44 : decode cX7_drops 44 = .ok (.bipush 26, 2) := by decide +kernel
theorem dX7_drops_46 : decode cX7_drops 46 = .ok (.iadd, 1) := by decide +kernel
theorem dX7_drops_47 : decode cX7_drops 47 = .ok (.iaload, 1) := by decide +kernel
theorem dX7_drops_48 : decode cX7_drops 48 = .ok (.iastore, 1) := by decide +kernel
theorem dX7_drops_49 : decode cX7_drops 49 = .ok (.iinc 2 1, 3) := by decide +kernel
theorem dX7_drops_52 : decode cX7_drops 52 = .ok (.goto (-34), 3) := by decide +kernel
theorem dX7_drops_55 : decode cX7_drops 55 = .ok (.bipush 28, 2) := by decide +kernel
theorem dX7_drops_57 : decode cX7_drops 57 = .ok (.bipush 26, 2) := by decide +kernel
theorem dX7_drops_59 : decode cX7_drops 59 = .ok (.aload_n 0, 1) := by decide +kernel
theorem dX7_drops_60 : decode cX7_drops 60 = .ok (.getfield 7, 3) := by decide +kernel
theorem dX7_drops_63 : decode cX7_drops 63 = .ok (.iconst 0, 1) := by decide +kernel
theorem dX7_drops_64 : decode cX7_drops 64 = .ok (.iaload, 1) := by decide +kernel
theorem dX7_drops_65 : decode cX7_drops 65 = .ok (.imul, 1) := by decide +kernel
theorem dX7_drops_66 : decode cX7_drops 66 = .ok (.iadd, 1) := by decide +kernel
theorem dX7_drops_67 : decode cX7_drops 67 = .ok (.istore_n 2, 1) := by decide +kernel
theorem dX7_drops_68 : decode cX7_drops 68 = .ok (.iload_n 2, 1) := by decide +kernel
theorem dX7_drops_69 : decode cX7_drops 69 = .ok (.sipush 444, 3) := by decide +kernel
theorem dX7_drops_72 : decode cX7_drops 72 = .ok (.if_icmp .ge 16, 3) := by decide +kernel
theorem dX7_drops_75 : decode cX7_drops 75 = .ok (.aload_n 0, 1) := by decide +kernel
theorem dX7_drops_76 : decode cX7_drops 76 = .ok (.getfield 7, 3) := by decide +kernel
theorem dX7_drops_79 : decode cX7_drops 79 = .ok (.iload_n 2, 1) := by decide +kernel
theorem dX7_drops_80 : decode cX7_drops 80 = .ok (.iconst 0, 1) := by decide +kernel
theorem dX7_drops_81 : decode cX7_drops 81 = .ok (.iastore, 1) := by decide +kernel
theorem dX7_drops_82 : decode cX7_drops 82 = .ok (.iinc 2 1, 3) := by decide +kernel
theorem dX7_drops_85 : decode cX7_drops 85 = .ok (.goto (-17), 3) := by decide +kernel
theorem dX7_drops_88 : decode cX7_drops 88 = .ok (.aload_n 0, 1) := by decide +kernel
theorem dX7_drops_89 : decode cX7_drops 89 = .ok (.getfield 7, 3) := by decide +kernel
theorem dX7_drops_92 : decode cX7_drops 92 = .ok (.iconst 0, 1) := by decide +kernel
theorem dX7_drops_93 : decode cX7_drops 93 = .ok (.iaload, 1) := by decide +kernel
theorem dX7_drops_94 : decode cX7_drops 94 = .ok (.ireturn, 1) := by decide +kernel
theorem dX7_clearsQuery_0 : decode cX7_clearsQuery 0 = .ok (.iconst 0, 1) := by decide +kernel
theorem dX7_clearsQuery_1 : decode cX7_clearsQuery 1 = .ok (.istore_n 1, 1) := by decide +kernel
theorem dX7_clearsQuery_2 : decode cX7_clearsQuery 2 = .ok (.iload_n 1, 1) := by decide +kernel
theorem dX7_clearsQuery_3 : decode cX7_clearsQuery 3 = .ok (.bipush 24, 2) := by decide +kernel
theorem dX7_clearsQuery_5 : decode cX7_clearsQuery 5 = .ok (.if_icmp .gt 18, 3) := by decide +kernel
theorem dX7_clearsQuery_8 : decode cX7_clearsQuery 8 = .ok (.aload_n 0, 1) := by decide +kernel
theorem dX7_clearsQuery_9 : decode cX7_clearsQuery 9 = .ok (.getfield 7, 3) := by decide +kernel
theorem dX7_clearsQuery_12 : decode cX7_clearsQuery 12 = .ok (.iconst 3, 1) := by decide +kernel
theorem dX7_clearsQuery_13 : decode cX7_clearsQuery 13 = .ok (.iload_n 1, 1) := by decide +kernel
theorem dX7_clearsQuery_14 : decode cX7_clearsQuery 14 = .ok (.iadd, 1) := by decide +kernel
theorem dX7_clearsQuery_15 : decode cX7_clearsQuery 15 = .ok (.iconst 0, 1) := by decide +kernel
theorem dX7_clearsQuery_16 : decode cX7_clearsQuery 16 = .ok (.iastore, 1) := by decide +kernel
theorem dX7_clearsQuery_17 : decode cX7_clearsQuery 17 = .ok (.iinc 1 1, 3) := by decide +kernel
theorem dX7_clearsQuery_20 : decode cX7_clearsQuery 20 = .ok (.goto (-18), 3) := by decide +kernel
theorem dX7_clearsQuery_23 : decode cX7_clearsQuery 23 = .ok (.return_, 1) := by decide +kernel
theorem dX7_picks_0 : decode cX7_picks 0 = .ok (.aload_n 0, 1) := by decide +kernel
theorem dX7_picks_1 : decode cX7_picks 1 = .ok (.getfield 28, 3) := by decide +kernel
theorem dX7_picks_4 : decode cX7_picks 4 = .ok (.iload_n 1, 1) := by decide +kernel
theorem dX7_picks_5 : decode cX7_picks 5 = .ok (.iaload, 1) := by decide +kernel
theorem dX7_picks_6 : decode cX7_picks 6 = .ok (.istore_n 2, 1) := by decide +kernel
theorem dX7_picks_7 : decode cX7_picks 7 = .ok (.aload_n 0, 1) := by decide +kernel
theorem dX7_picks_8 : decode cX7_picks 8 = .ok (.getfield 7, 3) := by decide +kernel
theorem dX7_picks_11 : decode cX7_picks 11 = .ok (.bipush 28, 2) := by decide +kernel
theorem dX7_picks_13 : decode cX7_picks 13 = .ok (.bipush 26, 2) := by decide +kernel
theorem dX7_picks_15 : decode cX7_picks 15 = .ok (.iload_n 2, 1) := by decide +kernel
theorem dX7_picks_16 : decode cX7_picks 16 = .ok (.imul, 1) := by decide +kernel
theorem dX7_picks_17 : decode cX7_picks 17 = .ok (.iadd, 1) := by decide +kernel
theorem dX7_picks_18 : decode cX7_picks 18 = .ok (.iconst 1, 1) := by decide +kernel
theorem dX7_picks_19 : decode cX7_picks 19 = .ok (.iadd, 1) := by decide +kernel
theorem dX7_picks_20 : decode cX7_picks 20 = .ok (.dup2, 1) := by decide +kernel
theorem dX7_picks_21 : decode cX7_picks 21 = .ok (.iaload, 1) := by decide +kernel
theorem dX7_picks_22 : decode cX7_picks 22 = .ok (.iconst 1, 1) := by decide +kernel
theorem dX7_picks_23 : decode cX7_picks 23 = .ok (.iadd, 1) := by decide +kernel
theorem dX7_picks_24 : decode cX7_picks 24 = .ok (.iastore, 1) := by decide +kernel
theorem dX7_picks_25 : decode cX7_picks 25 = .ok (.aload_n 0, 1) := by decide +kernel
theorem dX7_picks_26 : decode cX7_picks 26 = .ok (.invokevirtual 207, 3) := by decide +kernel
theorem dX7_picks_29 : decode cX7_picks 29 = .ok (.iload_n 2, 1) := by decide +kernel
theorem dX7_picks_30 : decode cX7_picks 30 = .ok (.ireturn, 1) := by decide +kernel
theorem dX7_isRank_0 : decode cX7_isRank 0 = .ok (.aload_n 0, 1) := by decide +kernel
theorem dX7_isRank_1 : decode cX7_isRank 1 = .ok (.invokevirtual 210, 3) := by decide +kernel
theorem dX7_isRank_4 : decode cX7_isRank 4 = .ok (.iload_n 1, 1) := by decide +kernel
theorem dX7_isRank_5 : decode cX7_isRank 5 = .ok (.iconst 0, 1) := by decide +kernel
theorem dX7_isRank_6 : decode cX7_isRank 6 = .ok (.aload_n 0, 1) := by decide +kernel
theorem dX7_isRank_7 : decode cX7_isRank 7 = .ok (.getfield 93, 3) := by decide +kernel
theorem dX7_isRank_10 : decode cX7_isRank 10 = .ok (.iconst 1, 1) := by decide +kernel
theorem dX7_isRank_11 : decode cX7_isRank 11 = .ok (.isub, 1) := by decide +kernel
theorem dX7_isRank_12 : decode cX7_isRank 12 = .ok (.invokestatic 47, 3) := by decide +kernel
theorem dX7_isRank_15 : decode cX7_isRank 15 = .ok (.ireturn, 1) := by decide +kernel
theorem dX7_mayDo_0 : decode cX7_mayDo 0 = .ok (.aload_n 0, 1) := by decide +kernel
theorem dX7_mayDo_1 : decode cX7_mayDo 1 = .ok (.getfield 164, 3) := by decide +kernel
theorem dX7_mayDo_4 : decode cX7_mayDo 4 = .ok (.lookupswitch 75 #[(97, 36), (100, 57), (112, 66)], 36) := by decide +kernel
theorem dX7_mayDo_40 : decode cX7_mayDo 40 = .ok (.aload_n 0, 1) := by decide +kernel
theorem dX7_mayDo_41 : decode cX7_mayDo 41 = .ok (.aload_n 0, 1) := by decide +kernel
theorem dX7_mayDo_42 : decode cX7_mayDo 42 = .ok (.getfield 134, 3) := by decide +kernel
theorem dX7_mayDo_45 : decode cX7_mayDo 45 = .ok (.aload_n 0, 1) := by decide +kernel
theorem dX7_mayDo_46 : decode cX7_mayDo 46 = .ok (.getfield 140, 3) := by decide +kernel
theorem dX7_mayDo_49 : decode cX7_mayDo 49 = .ok (.invokevirtual 213, 3) := by decide +kernel
theorem dX7_mayDo_52 : decode cX7_mayDo 52 = .ok (.ifCond .ne 7, 3) := by decide +kernel
theorem dX7_mayDo_55 : decode cX7_mayDo 55 = .ok (.iconst 1, 1) := by decide +kernel
theorem dX7_mayDo_56 : decode cX7_mayDo 56 = .ok (.goto 4, 3) := by decide +kernel
theorem dX7_mayDo_59 : decode cX7_mayDo 59 = .ok (.iconst 0, 1) := by decide +kernel
theorem dX7_mayDo_60 : decode cX7_mayDo 60 = .ok (.ireturn, 1) := by decide +kernel
theorem dX7_mayDo_61 : decode cX7_mayDo 61 = .ok (.aload_n 0, 1) := by decide +kernel
theorem dX7_mayDo_62 : decode cX7_mayDo 62 = .ok (.aload_n 0, 1) := by decide +kernel
theorem dX7_mayDo_63 : decode cX7_mayDo 63 = .ok (.getfield 143, 3) := by decide +kernel
theorem dX7_mayDo_66 : decode cX7_mayDo 66 = .ok (.invokevirtual 216, 3) := by decide +kernel
theorem dX7_mayDo_69 : decode cX7_mayDo 69 = .ok (.ireturn, 1) := by decide +kernel
theorem dX7_mayDo_70 : decode cX7_mayDo 70 = .ok (.aload_n 0, 1) := by decide +kernel
theorem dX7_mayDo_71 : decode cX7_mayDo 71 = .ok (.aload_n 0, 1) := by decide +kernel
theorem dX7_mayDo_72 : decode cX7_mayDo 72 = .ok (.getfield 143, 3) := by decide +kernel
theorem dX7_mayDo_75 : decode cX7_mayDo 75 = .ok (.invokevirtual 219, 3) := by decide +kernel
theorem dX7_mayDo_78 : decode cX7_mayDo 78 = .ok (.ireturn, 1) := by decide +kernel
theorem dX7_mayDo_79 : decode cX7_mayDo 79 = .ok (.iconst 1, 1) := by decide +kernel
theorem dX7_mayDo_80 : decode cX7_mayDo 80 = .ok (.ireturn, 1) := by decide +kernel
theorem dX7_does_0 : decode cX7_does 0 = .ok (.aload_n 0, 1) := by decide +kernel
theorem dX7_does_1 : decode cX7_does 1 = .ok (.getfield 164, 3) := by decide +kernel
theorem dX7_does_4 : decode cX7_does 4 = .ok (.tableswitch 218 97 115 #[92, 218, 218, 108, 218, 218, 218, 218, 218, 218, 218, 218, 120, 218, 133, 146, 218, 218, 158], 92) := by decide +kernel
theorem dX7_does_96 : decode cX7_does 96 = .ok (.aload_n 0, 1) := by decide +kernel
theorem dX7_does_97 : decode cX7_does 97 = .ok (.aload_n 0, 1) := by decide +kernel
theorem dX7_does_98 : decode cX7_does 98 = .ok (.getfield 134, 3) := by decide +kernel
theorem dX7_does_101 : decode cX7_does 101 = .ok (.aload_n 0, 1) := by decide +kernel
theorem dX7_does_102 : decode cX7_does 102 = .ok (.getfield 140, 3) := by decide +kernel
theorem dX7_does_105 : decode cX7_does 105 = .ok (.invokevirtual 222, 3) := by decide +kernel
theorem dX7_does_108 : decode cX7_does 108 = .ok (.pop, 1) := by decide +kernel
theorem dX7_does_109 : decode cX7_does 109 = .ok (.goto 117, 3) := by decide +kernel
theorem dX7_does_112 : decode cX7_does 112 = .ok (.aload_n 0, 1) := by decide +kernel
theorem dX7_does_113 : decode cX7_does 113 = .ok (.aload_n 0, 1) := by decide +kernel
theorem dX7_does_114 : decode cX7_does 114 = .ok (.getfield 143, 3) := by decide +kernel
theorem dX7_does_117 : decode cX7_does 117 = .ok (.invokevirtual 225, 3) := by decide +kernel
theorem dX7_does_120 : decode cX7_does 120 = .ok (.pop, 1) := by decide +kernel
theorem dX7_does_121 : decode cX7_does 121 = .ok (.goto 105, 3) := by decide +kernel
theorem dX7_does_124 : decode cX7_does 124 = .ok (.aload_n 0, 1) := by decide +kernel
theorem dX7_does_125 : decode cX7_does 125 = .ok (.getfield 7, 3) := by decide +kernel
theorem dX7_does_128 : decode cX7_does 128 = .ok (.iconst 1, 1) := by decide +kernel
theorem dX7_does_129 : decode cX7_does 129 = .ok (.aload_n 0, 1) := by decide +kernel
theorem dX7_does_130 : decode cX7_does 130 = .ok (.getfield 143, 3) := by decide +kernel
theorem dX7_does_133 : decode cX7_does 133 = .ok (.iastore, 1) := by decide +kernel
theorem dX7_does_134 : decode cX7_does 134 = .ok (.goto 92, 3) := by decide +kernel
theorem dX7_does_137 : decode cX7_does 137 = .ok (.aload_n 0, 1) := by decide +kernel
theorem dX7_does_138 : decode cX7_does 138 = .ok (.getfield 7, 3) := by decide +kernel
theorem dX7_does_141 : decode cX7_does 141 = .ok (.iconst 2, 1) := by decide +kernel
theorem dX7_does_142 : decode cX7_does 142 = .ok (.aload_n 0, 1) := by decide +kernel
theorem dX7_does_143 : decode cX7_does 143 = .ok (.getfield 143, 3) := by decide +kernel
theorem dX7_does_146 : decode cX7_does 146 = .ok (.iastore, 1) := by decide +kernel
theorem dX7_does_147 : decode cX7_does 147 = .ok (.goto 79, 3) := by decide +kernel
theorem dX7_does_150 : decode cX7_does 150 = .ok (.aload_n 0, 1) := by decide +kernel
theorem dX7_does_151 : decode cX7_does 151 = .ok (.aload_n 0, 1) := by decide +kernel
theorem dX7_does_152 : decode cX7_does 152 = .ok (.getfield 143, 3) := by decide +kernel
theorem dX7_does_155 : decode cX7_does 155 = .ok (.invokevirtual 228, 3) := by decide +kernel
theorem dX7_does_158 : decode cX7_does 158 = .ok (.pop, 1) := by decide +kernel
theorem dX7_does_159 : decode cX7_does 159 = .ok (.goto 67, 3) := by decide +kernel
theorem dX7_does_162 : decode cX7_does 162 = .ok (.aload_n 0, 1) := by decide +kernel
theorem dX7_does_163 : decode cX7_does 163 = .ok (.invokevirtual 207, 3) := by decide +kernel
theorem dX7_does_166 : decode cX7_does 166 = .ok (.aload_n 0, 1) := by decide +kernel
theorem dX7_does_167 : decode cX7_does 167 = .ok (.getfield 134, 3) := by decide +kernel
theorem dX7_does_170 : decode cX7_does 170 = .ok (.istore_n 1, 1) := by decide +kernel
theorem dX7_does_171 : decode cX7_does 171 = .ok (.iload_n 1, 1) := by decide +kernel
theorem dX7_does_172 : decode cX7_does 172 = .ok (.aload_n 0, 1) := by decide +kernel
theorem dX7_does_173 : decode cX7_does 173 = .ok (.getfield 140, 3) := by decide +kernel
theorem dX7_does_176 : decode cX7_does 176 = .ok (.if_icmp .ge 28, 3) := by decide +kernel
theorem dX7_does_179 : decode cX7_does 179 = .ok (.aload_n 0, 1) := by decide +kernel
theorem dX7_does_180 : decode cX7_does 180 = .ok (.getfield 7, 3) := by decide +kernel
theorem dX7_does_183 : decode cX7_does 183 = .ok (.iconst 4, 1) := by decide +kernel
theorem dX7_does_184 : decode cX7_does 184 = .ok (.iload_n 1, 1) := by decide +kernel
theorem dX7_does_185 : decode cX7_does 185 = .ok (.iadd, 1) := by decide +kernel
theorem dX7_does_186 : decode cX7_does 186 = .ok (.aload_n 0, 1) := by decide +kernel
theorem dX7_does_187 : decode cX7_does 187 = .ok (.getfield 134, 3) := by decide +kernel
theorem dX7_does_190 : decode cX7_does 190 = .ok (.isub, 1) := by decide +kernel
theorem dX7_does_191 : decode cX7_does 191 = .ok (.aload_n 0, 1) := by decide +kernel
theorem dX7_does_192 : decode cX7_does 192 = .ok (.getfield 16, 3) := by decide +kernel
theorem dX7_does_195 : decode cX7_does 195 = .ok (.iload_n 1, 1) := by decide +kernel
theorem dX7_does_196 : decode cX7_does 196 = .ok (.iaload, 1) := by decide +kernel
theorem dX7_does_197 : decode cX7_does 197 = .ok (.iastore, 1) := by decide +kernel
theorem dX7_does_198 : decode cX7_does 198 = .ok (.iinc 1 1, 3) := by decide +kernel
theorem dX7_does_201 : decode cX7_does 201 = .ok (.goto (-30), 3) := by decide +kernel
theorem dX7_does_204 : decode cX7_does 204 = .ok (.aload_n 0, 1) := by decide +kernel
theorem dX7_does_205 : decode cX7_does 205 = .ok (.getfield 7, 3) := by decide +kernel
theorem dX7_does_208 : decode cX7_does 208 = .ok (.iconst 3, 1) := by decide +kernel
theorem dX7_does_209 : decode cX7_does 209 = .ok (.aload_n 0, 1) := by decide +kernel
theorem dX7_does_210 : decode cX7_does 210 = .ok (.getfield 140, 3) := by decide +kernel
theorem dX7_does_213 : decode cX7_does 213 = .ok (.aload_n 0, 1) := by decide +kernel
theorem dX7_does_214 : decode cX7_does 214 = .ok (.getfield 134, 3) := by decide +kernel
theorem dX7_does_217 : decode cX7_does 217 = .ok (.isub, 1) := by decide +kernel
theorem dX7_does_218 : decode cX7_does 218 = .ok (.iastore, 1) := by decide +kernel
theorem dX7_does_219 : decode cX7_does 219 = .ok (.goto 7, 3) := by decide +kernel
theorem dX7_does_222 : decode cX7_does 222 = .ok (.aload_n 0, 1) := by decide +kernel
theorem dX7_does_223 : decode cX7_does 223 = .ok (.invokevirtual 207, 3) := by decide +kernel
theorem dX7_does_226 : decode cX7_does 226 = .ok (.return_, 1) := by decide +kernel
theorem dX7_carryOut_0 : decode cX7_carryOut 0 = .ok (.aload_n 0, 1) := by decide +kernel
theorem dX7_carryOut_1 : decode cX7_carryOut 1 = .ok (.invokevirtual 200, 3) := by decide +kernel
theorem dX7_carryOut_4 : decode cX7_carryOut 4 = .ok (.bipush (-6), 2) := by decide +kernel
theorem dX7_carryOut_6 : decode cX7_carryOut 6 = .ok (.if_icmp .eq 6, 3) := by decide +kernel
theorem dX7_carryOut_9 : decode cX7_carryOut 9 = .ok (.bipush (-5), 2) := by decide +kernel
theorem dX7_carryOut_11 : decode cX7_carryOut 11 = .ok (.ireturn, 1) := by decide +kernel
theorem dX7_carryOut_12 : decode cX7_carryOut 12 = .ok (.aload_n 0, 1) := by decide +kernel
theorem dX7_carryOut_13 : decode cX7_carryOut 13 = .ok (.invokevirtual 231, 3) := by decide +kernel
theorem dX7_carryOut_16 : decode cX7_carryOut 16 = .ok (.iconst 0, 1) := by decide +kernel
theorem dX7_carryOut_17 : decode cX7_carryOut 17 = .ok (.istore_n 1, 1) := by decide +kernel
theorem dX7_carryOut_18 : decode cX7_carryOut 18 = .ok (.aload_n 0, 1) := by decide +kernel
theorem dX7_carryOut_19 : decode cX7_carryOut 19 = .ok (.iconst 0, 1) := by decide +kernel
theorem dX7_carryOut_20 : decode cX7_carryOut 20 = .ok (.putfield 123, 3) := by decide +kernel
theorem dX7_carryOut_23 : decode cX7_carryOut 23 = .ok (.iconst 1, 1) := by decide +kernel
theorem dX7_carryOut_24 : decode cX7_carryOut 24 = .ok (.istore_n 2, 1) := by decide +kernel
theorem dX7_carryOut_25 : decode cX7_carryOut 25 = .ok (.iload_n 2, 1) := by decide +kernel
theorem dX7_carryOut_26 : decode cX7_carryOut 26 = .ok (.ifCond .eq 45, 3) := by decide +kernel
theorem dX7_carryOut_29 : decode cX7_carryOut 29 = .ok (.aload_n 0, 1) := by decide +kernel
theorem dX7_carryOut_30 : decode cX7_carryOut 30 = .ok (.getfield 123, 3) := by decide +kernel
theorem dX7_carryOut_33 : decode cX7_carryOut 33 = .ok (.aload_n 0, 1) := by decide +kernel
theorem dX7_carryOut_34 : decode cX7_carryOut 34 = .ok (.getfield 120, 3) := by decide +kernel
theorem dX7_carryOut_37 : decode cX7_carryOut 37 = .ok (.if_icmp .ge 34, 3) := by decide +kernel
theorem dX7_carryOut_40 : decode cX7_carryOut 40 = .ok (.aload_n 0, 1) := by decide +kernel
theorem dX7_carryOut_41 : decode cX7_carryOut 41 = .ok (.invokevirtual 197, 3) := by decide +kernel
theorem dX7_carryOut_44 : decode cX7_carryOut 44 = .ok (.pop, 1) := by decide +kernel
theorem dX7_carryOut_45 : decode cX7_carryOut 45 = .ok (.aload_n 0, 1) := by decide +kernel
theorem dX7_carryOut_46 : decode cX7_carryOut 46 = .ok (.bipush 59, 2) := by decide +kernel
theorem dX7_carryOut_48 : decode cX7_carryOut 48 = .ok (.invokevirtual 131, 3) := by decide +kernel
theorem dX7_carryOut_51 : decode cX7_carryOut 51 = .ok (.pop, 1) := by decide +kernel
theorem dX7_carryOut_52 : decode cX7_carryOut 52 = .ok (.aload_n 0, 1) := by decide +kernel
theorem dX7_carryOut_53 : decode cX7_carryOut 53 = .ok (.invokevirtual 234, 3) := by decide +kernel
theorem dX7_carryOut_56 : decode cX7_carryOut 56 = .ok (.istore_n 2, 1) := by decide +kernel
theorem dX7_carryOut_57 : decode cX7_carryOut 57 = .ok (.iload_n 2, 1) := by decide +kernel
theorem dX7_carryOut_58 : decode cX7_carryOut 58 = .ok (.ifCond .eq (-33), 3) := by decide +kernel
theorem dX7_carryOut_61 : decode cX7_carryOut 61 = .ok (.aload_n 0, 1) := by decide +kernel
theorem dX7_carryOut_62 : decode cX7_carryOut 62 = .ok (.invokevirtual 237, 3) := by decide +kernel
theorem dX7_carryOut_65 : decode cX7_carryOut 65 = .ok (.iinc 1 1, 3) := by decide +kernel
theorem dX7_carryOut_68 : decode cX7_carryOut 68 = .ok (.goto (-43), 3) := by decide +kernel
theorem dX7_carryOut_71 : decode cX7_carryOut 71 = .ok (.aload_n 0, 1) := by decide +kernel
theorem dX7_carryOut_72 : decode cX7_carryOut 72 = .ok (.iconst 0, 1) := by decide +kernel
theorem dX7_carryOut_73 : decode cX7_carryOut 73 = .ok (.putfield 120, 3) := by decide +kernel
theorem dX7_carryOut_76 : decode cX7_carryOut 76 = .ok (.iload_n 1, 1) := by decide +kernel
theorem dX7_carryOut_77 : decode cX7_carryOut 77 = .ok (.ireturn, 1) := by decide +kernel
theorem dX7_whyNotTyped_0 : decode cX7_whyNotTyped 0 = .ok (.aload_n 0, 1) := by decide +kernel
theorem dX7_whyNotTyped_1 : decode cX7_whyNotTyped 1 = .ok (.iconst 0, 1) := by decide +kernel
theorem dX7_whyNotTyped_2 : decode cX7_whyNotTyped 2 = .ok (.putfield 123, 3) := by decide +kernel
theorem dX7_whyNotTyped_5 : decode cX7_whyNotTyped 5 = .ok (.aload_n 0, 1) := by decide +kernel
theorem dX7_whyNotTyped_6 : decode cX7_whyNotTyped 6 = .ok (.invokevirtual 171, 3) := by decide +kernel
theorem dX7_whyNotTyped_9 : decode cX7_whyNotTyped 9 = .ok (.ifCond .eq 14, 3) := by decide +kernel
theorem dX7_whyNotTyped_12 : decode cX7_whyNotTyped 12 = .ok (.aload_n 0, 1) := by decide +kernel
theorem dX7_whyNotTyped_13 : decode cX7_whyNotTyped 13 = .ok (.getfield 123, 3) := by decide +kernel
theorem dX7_whyNotTyped_16 : decode cX7_whyNotTyped 16 = .ok (.aload_n 0, 1) := by decide +kernel
theorem dX7_whyNotTyped_17 : decode cX7_whyNotTyped 17 = .ok (.getfield 120, 3) := by decide +kernel
theorem dX7_whyNotTyped_20 : decode cX7_whyNotTyped 20 = .ok (.if_icmp .ge 6, 3) := by decide +kernel
theorem dX7_whyNotTyped_23 : decode cX7_whyNotTyped 23 = .ok (.bipush (-5), 2) := by decide +kernel
theorem dX7_whyNotTyped_25 : decode cX7_whyNotTyped 25 = .ok (.ireturn, 1) := by decide +kernel
theorem dX7_whyNotTyped_26 : decode cX7_whyNotTyped 26 = .ok (.aload_n 0, 1) := by decide +kernel
theorem dX7_whyNotTyped_27 : decode cX7_whyNotTyped 27 = .ok (.iconst 0, 1) := by decide +kernel
theorem dX7_whyNotTyped_28 : decode cX7_whyNotTyped 28 = .ok (.aload_n 0, 1) := by decide +kernel
theorem dX7_whyNotTyped_29 : decode cX7_whyNotTyped 29 = .ok (.getfield 120, 3) := by decide +kernel
theorem dX7_whyNotTyped_32 : decode cX7_whyNotTyped 32 = .ok (.invokevirtual 213, 3) := by decide +kernel
theorem dX7_whyNotTyped_35 : decode cX7_whyNotTyped 35 = .ok (.ireturn, 1) := by decide +kernel
theorem dX7_add_0 : decode cX7_add 0 = .ok (.aload_n 0, 1) := by decide +kernel
theorem dX7_add_1 : decode cX7_add 1 = .ok (.invokevirtual 240, 3) := by decide +kernel
theorem dX7_add_4 : decode cX7_add 4 = .ok (.istore_n 1, 1) := by decide +kernel
theorem dX7_add_5 : decode cX7_add 5 = .ok (.iload_n 1, 1) := by decide +kernel
theorem dX7_add_6 : decode cX7_add 6 = .ok (.ifCond .ge 5, 3) := by decide +kernel
theorem dX7_add_9 : decode cX7_add 9 = .ok (.iload_n 1, 1) := by decide +kernel
theorem dX7_add_10 : decode cX7_add 10 = .ok (.ireturn, 1) := by decide +kernel
theorem dX7_add_11 : decode cX7_add 11 = .ok (.aload_n 0, 1) := by decide +kernel
theorem dX7_add_12 : decode cX7_add 12 = .ok (.invokevirtual 231, 3) := by decide +kernel
theorem dX7_add_15 : decode cX7_add 15 = .ok (.aload_n 0, 1) := by decide +kernel
theorem dX7_add_16 : decode cX7_add 16 = .ok (.iconst 0, 1) := by decide +kernel
theorem dX7_add_17 : decode cX7_add 17 = .ok (.aload_n 0, 1) := by decide +kernel
theorem dX7_add_18 : decode cX7_add 18 = .ok (.getfield 120, 3) := by decide +kernel
theorem dX7_add_21 : decode cX7_add 21 = .ok (.invokevirtual 222, 3) := by decide +kernel
theorem dX7_add_24 : decode cX7_add 24 = .ok (.istore_n 2, 1) := by decide +kernel
theorem dX7_add_25 : decode cX7_add 25 = .ok (.aload_n 0, 1) := by decide +kernel
theorem dX7_add_26 : decode cX7_add 26 = .ok (.iconst 0, 1) := by decide +kernel
theorem dX7_add_27 : decode cX7_add 27 = .ok (.putfield 120, 3) := by decide +kernel
theorem dX7_add_30 : decode cX7_add 30 = .ok (.iload_n 2, 1) := by decide +kernel
theorem dX7_add_31 : decode cX7_add 31 = .ok (.ireturn, 1) := by decide +kernel
theorem dX7_drop_0 : decode cX7_drop 0 = .ok (.aload_n 0, 1) := by decide +kernel
theorem dX7_drop_1 : decode cX7_drop 1 = .ok (.iload_n 1, 1) := by decide +kernel
theorem dX7_drop_2 : decode cX7_drop 2 = .ok (.invokevirtual 216, 3) := by decide +kernel
theorem dX7_drop_5 : decode cX7_drop 5 = .ok (.ifCond .ne 5, 3) := by decide +kernel
theorem dX7_drop_8 : decode cX7_drop 8 = .ok (.iconst (-1), 1) := by decide +kernel
theorem dX7_drop_9 : decode cX7_drop 9 = .ok (.ireturn, 1) := by decide +kernel
theorem dX7_drop_10 : decode cX7_drop 10 = .ok (.aload_n 0, 1) := by decide +kernel
theorem dX7_drop_11 : decode cX7_drop 11 = .ok (.invokevirtual 231, 3) := by decide +kernel
theorem dX7_drop_14 : decode cX7_drop 14 = .ok (.aload_n 0, 1) := by decide +kernel
theorem dX7_drop_15 : decode cX7_drop 15 = .ok (.iload_n 1, 1) := by decide +kernel
theorem dX7_drop_16 : decode cX7_drop 16 = .ok (.invokevirtual 225, 3) := by decide +kernel
theorem dX7_drop_19 : decode cX7_drop 19 = .ok (.ireturn, 1) := by decide +kernel
theorem dX7_titles_0 : decode cX7_titles 0 = .ok (.aload_n 0, 1) := by decide +kernel
theorem dX7_titles_1 : decode cX7_titles 1 = .ok (.getfield 7, 3) := by decide +kernel
theorem dX7_titles_4 : decode cX7_titles 4 = .ok (.iconst 0, 1) := by decide +kernel
theorem dX7_titles_5 : decode cX7_titles 5 = .ok (.iaload, 1) := by decide +kernel
theorem dX7_titles_6 : decode cX7_titles 6 = .ok (.ireturn, 1) := by decide +kernel
theorem dX7_character_0 : decode cX7_character 0 = .ok (.aload_n 0, 1) := by decide +kernel
theorem dX7_character_1 : decode cX7_character 1 = .ok (.iload_n 1, 1) := by decide +kernel
theorem dX7_character_2 : decode cX7_character 2 = .ok (.invokevirtual 216, 3) := by decide +kernel
theorem dX7_character_5 : decode cX7_character 5 = .ok (.ifCond .eq 27, 3) := by decide +kernel
theorem dX7_character_8 : decode cX7_character 8 = .ok (.iload_n 2, 1) := by decide +kernel
theorem dX7_character_9 : decode cX7_character 9 = .ok (.iconst 0, 1) := by decide +kernel
theorem dX7_character_10 : decode cX7_character 10 = .ok (.aload_n 0, 1) := by decide +kernel
theorem dX7_character_11 : decode cX7_character 11 = .ok (.iload_n 1, 1) := by decide +kernel
theorem dX7_character_12 : decode cX7_character 12 = .ok (.invokevirtual 58, 3) := by decide +kernel
theorem dX7_character_15 : decode cX7_character 15 = .ok (.iconst 1, 1) := by decide +kernel
theorem dX7_character_16 : decode cX7_character 16 = .ok (.isub, 1) := by decide +kernel
theorem dX7_character_17 : decode cX7_character 17 = .ok (.invokestatic 47, 3) := by decide +kernel
theorem dX7_character_20 : decode cX7_character 20 = .ok (.ifCond .eq 12, 3) := by decide +kernel
theorem dX7_character_23 : decode cX7_character 23 = .ok (.aload_n 0, 1) := by decide +kernel
theorem dX7_character_24 : decode cX7_character 24 = .ok (.iload_n 1, 1) := by decide +kernel
theorem dX7_character_25 : decode cX7_character 25 = .ok (.iload_n 2, 1) := by decide +kernel
theorem dX7_character_26 : decode cX7_character 26 = .ok (.invokevirtual 55, 3) := by decide +kernel
theorem dX7_character_29 : decode cX7_character 29 = .ok (.goto 4, 3) := by decide +kernel
theorem dX7_character_32 : decode cX7_character 32 = .ok (.iconst (-1), 1) := by decide +kernel
theorem dX7_character_33 : decode cX7_character 33 = .ok (.ireturn, 1) := by decide +kernel
theorem dX7_words_0 : decode cX7_words 0 = .ok (.iconst 0, 1) := by decide +kernel
theorem dX7_words_1 : decode cX7_words 1 = .ok (.istore_n 2, 1) := by decide +kernel
theorem dX7_words_2 : decode cX7_words 2 = .ok (.iconst 0, 1) := by decide +kernel
theorem dX7_words_3 : decode cX7_words 3 = .ok (.istore_n 3, 1) := by decide +kernel
theorem dX7_words_4 : decode cX7_words 4 = .ok (.iload_n 3, 1) := by decide +kernel
theorem dX7_words_5 : decode cX7_words 5 = .ok (.aload_n 0, 1) := by decide +kernel
theorem dX7_words_6 : decode cX7_words 6 = .ok (.iload_n 1, 1) := by decide +kernel
theorem dX7_words_7 : decode cX7_words 7 = .ok (.invokevirtual 58, 3) := by decide +kernel
theorem dX7_words_10 : decode cX7_words 10 = .ok (.if_icmp .ge 26, 3) := by decide +kernel
theorem dX7_words_13 : decode cX7_words 13 = .ok (.iload_n 2, 1) := by decide +kernel
theorem dX7_words_14 : decode cX7_words 14 = .ok (.aload_n 0, 1) := by decide +kernel
theorem dX7_words_15 : decode cX7_words 15 = .ok (.iload_n 1, 1) := by decide +kernel
theorem dX7_words_16 : decode cX7_words 16 = .ok (.iload_n 3, 1) := by decide +kernel
theorem dX7_words_17 : decode cX7_words 17 = .ok (.invokevirtual 62, 3) := by decide +kernel
theorem dX7_words_20 : decode cX7_words 20 = .ok (.ifCond .eq 7, 3) := by decide +kernel
theorem dX7_words_23 : decode cX7_words 23 = .ok (.iconst 1, 1) := by decide +kernel
theorem dX7_words_24 : decode cX7_words 24 = .ok (.goto 4, 3) := by decide +kernel
theorem dX7_words_27 : decode cX7_words 27 = .ok (.iconst 0, 1) := by decide +kernel
theorem dX7_words_28 : decode cX7_words 28 = .ok (.iadd, 1) := by decide +kernel
theorem dX7_words_29 : decode cX7_words 29 = .ok (.istore_n 2, 1) := by decide +kernel
theorem dX7_words_30 : decode cX7_words 30 = .ok (.iinc 3 1, 3) := by decide +kernel
theorem dX7_words_33 : decode cX7_words 33 = .ok (.goto (-29), 3) := by decide +kernel
theorem dX7_words_36 : decode cX7_words 36 = .ok (.iload_n 2, 1) := by decide +kernel
theorem dX7_words_37 : decode cX7_words 37 = .ok (.ireturn, 1) := by decide +kernel
theorem dX7_ofTitle_0 : decode cX7_ofTitle 0 = .ok (.iload_n 2, 1) := by decide +kernel
theorem dX7_ofTitle_1 : decode cX7_ofTitle 1 = .ok (.iconst 3, 1) := by decide +kernel
theorem dX7_ofTitle_2 : decode cX7_ofTitle 2 = .ok (.if_icmp .ge 35, 3) := by decide +kernel
theorem dX7_ofTitle_5 : decode cX7_ofTitle 5 = .ok (.iload_n 2, 1) := by decide +kernel
theorem dX7_ofTitle_6 : decode cX7_ofTitle 6 = .ok (.ifCond .ne 11, 3) := by decide +kernel
theorem dX7_ofTitle_9 : decode cX7_ofTitle 9 = .ok (.aload_n 0, 1) := by decide +kernel
theorem dX7_ofTitle_10 : decode cX7_ofTitle 10 = .ok (.iload_n 1, 1) := by decide +kernel
theorem dX7_ofTitle_11 : decode cX7_ofTitle 11 = .ok (.invokevirtual 58, 3) := by decide +kernel
theorem dX7_ofTitle_14 : decode cX7_ofTitle 14 = .ok (.goto 22, 3) := by decide +kernel
theorem dX7_ofTitle_17 : decode cX7_ofTitle 17 = .ok (.iload_n 2, 1) := by decide +kernel
theorem dX7_ofTitle_18 : decode cX7_ofTitle 18 = .ok (.iconst 1, 1) := by decide +kernel
theorem dX7_ofTitle_19 : decode cX7_ofTitle 19 = .ok (.if_icmp .ne 11, 3) := by decide +kernel
theorem dX7_ofTitle_22 : decode cX7_ofTitle 22 = .ok (.aload_n 0, 1) := by decide +kernel
theorem dX7_ofTitle_23 : decode cX7_ofTitle 23 = .ok (.iload_n 1, 1) := by decide +kernel
theorem dX7_ofTitle_24 : decode cX7_ofTitle 24 = .ok (.invokevirtual 243, 3) := by decide +kernel
theorem dX7_ofTitle_27 : decode cX7_ofTitle 27 = .ok (.goto 9, 3) := by decide +kernel
theorem dX7_ofTitle_30 : decode cX7_ofTitle 30 = .ok (.aload_n 0, 1) := by decide +kernel
theorem dX7_ofTitle_31 : decode cX7_ofTitle 31 = .ok (.iload_n 1, 1) := by decide +kernel
theorem dX7_ofTitle_32 : decode cX7_ofTitle 32 = .ok (.iconst 1, 1) := by decide +kernel
theorem dX7_ofTitle_33 : decode cX7_ofTitle 33 = .ok (.invokevirtual 51, 3) := by decide +kernel
theorem dX7_ofTitle_36 : decode cX7_ofTitle 36 = .ok (.ireturn, 1) := by decide +kernel
theorem dX7_ofTitle_37 : decode cX7_ofTitle 37 = .ok (.aload_n 0, 1) := by decide +kernel
theorem dX7_ofTitle_38 : decode cX7_ofTitle 38 = .ok (.invokevirtual 87, 3) := by decide +kernel
theorem dX7_ofTitle_41 : decode cX7_ofTitle 41 = .ok (.aload_n 0, 1) := by decide +kernel
theorem dX7_ofTitle_42 : decode cX7_ofTitle 42 = .ok (.iload_n 1, 1) := by decide +kernel
theorem dX7_ofTitle_43 : decode cX7_ofTitle 43 = .ok (.iload_n 2, 1) := by decide +kernel
theorem dX7_ofTitle_44 : decode cX7_ofTitle 44 = .ok (.iconst 5, 1) := by decide +kernel
theorem dX7_ofTitle_45 : decode cX7_ofTitle 45 = .ok (.if_icmp .ge 7, 3) := by decide +kernel
theorem dX7_ofTitle_48 : decode cX7_ofTitle 48 = .ok (.iconst 1, 1) := by decide +kernel
theorem dX7_ofTitle_49 : decode cX7_ofTitle 49 = .ok (.goto 4, 3) := by decide +kernel
theorem dX7_ofTitle_52 : decode cX7_ofTitle 52 = .ok (.iconst 0, 1) := by decide +kernel
theorem dX7_ofTitle_53 : decode cX7_ofTitle 53 = .ok (.invokevirtual 116, 3) := by decide +kernel
theorem dX7_ofTitle_56 : decode cX7_ofTitle 56 = .ok (.iload_n 2, 1) := by decide +kernel
theorem dX7_ofTitle_57 : decode cX7_ofTitle 57 = .ok (.iconst 2, 1) := by decide +kernel
theorem dX7_ofTitle_58 : decode cX7_ofTitle 58 = .ok (.irem, 1) := by decide +kernel
theorem dX7_ofTitle_59 : decode cX7_ofTitle 59 = .ok (.iconst 1, 1) := by decide +kernel
theorem dX7_ofTitle_60 : decode cX7_ofTitle 60 = .ok (.if_icmp .ne 10, 3) := by decide +kernel
theorem dX7_ofTitle_63 : decode cX7_ofTitle 63 = .ok (.aload_n 0, 1) := by decide +kernel
theorem dX7_ofTitle_64 : decode cX7_ofTitle 64 = .ok (.getfield 110, 3) := by decide +kernel
theorem dX7_ofTitle_67 : decode cX7_ofTitle 67 = .ok (.goto 7, 3) := by decide +kernel
theorem dX7_ofTitle_70 : decode cX7_ofTitle 70 = .ok (.aload_n 0, 1) := by decide +kernel
theorem dX7_ofTitle_71 : decode cX7_ofTitle 71 = .ok (.getfield 113, 3) := by decide +kernel
theorem dX7_ofTitle_74 : decode cX7_ofTitle 74 = .ok (.ireturn, 1) := by decide +kernel
theorem dX7_of_0 : decode cX7_of 0 = .ok (.aload_n 0, 1) := by decide +kernel
theorem dX7_of_1 : decode cX7_of 1 = .ok (.iload_n 1, 1) := by decide +kernel
theorem dX7_of_2 : decode cX7_of 2 = .ok (.invokevirtual 216, 3) := by decide +kernel
theorem dX7_of_5 : decode cX7_of 5 = .ok (.ifCond .ne 5, 3) := by decide +kernel
theorem dX7_of_8 : decode cX7_of 8 = .ok (.iconst (-1), 1) := by decide +kernel
theorem dX7_of_9 : decode cX7_of 9 = .ok (.ireturn, 1) := by decide +kernel
theorem dX7_of_10 : decode cX7_of 10 = .ok (.iload_n 2, 1) := by decide +kernel
theorem dX7_of_11 : decode cX7_of 11 = .ok (.iconst 0, 1) := by decide +kernel
theorem dX7_of_12 : decode cX7_of 12 = .ok (.bipush 6, 2) := by decide +kernel
theorem dX7_of_14 : decode cX7_of 14 = .ok (.invokestatic 47, 3) := by decide +kernel
theorem dX7_of_17 : decode cX7_of 17 = .ok (.ifCond .eq 12, 3) := by decide +kernel
theorem dX7_of_20 : decode cX7_of 20 = .ok (.aload_n 0, 1) := by decide +kernel
theorem dX7_of_21 : decode cX7_of 21 = .ok (.iload_n 1, 1) := by decide +kernel
theorem dX7_of_22 : decode cX7_of 22 = .ok (.iload_n 2, 1) := by decide +kernel
theorem dX7_of_23 : decode cX7_of 23 = .ok (.invokevirtual 246, 3) := by decide +kernel
theorem dX7_of_26 : decode cX7_of 26 = .ok (.goto 5, 3) := by decide +kernel
theorem dX7_of_29 : decode cX7_of 29 = .ok (.bipush (-2), 2) := by decide +kernel
theorem dX7_of_31 : decode cX7_of 31 = .ok (.ireturn, 1) := by decide +kernel
theorem dX7_longestRun_0 : decode cX7_longestRun 0 = .ok (.iconst 0, 1) := by decide +kernel
theorem dX7_longestRun_1 : decode cX7_longestRun 1 = .ok (.istore_n 3, 1) := by decide +kernel
theorem dX7_longestRun_2 : decode cX7_longestRun 2 = .ok (.iconst 0, 1) := by decide +kernel
theorem dX7_longestRun_3 : decode cX7_longestRun 3 = .ok (.istore 4, 2) := by decide +kernel
theorem dX7_longestRun_5 : decode cX7_longestRun 5 = .ok (.iload 4, 2) := by decide +kernel
theorem dX7_longestRun_7 : decode cX7_longestRun 7 = .ok (.bipush 24, 2) := by decide +kernel
theorem dX7_longestRun_9 : decode cX7_longestRun 9 = .ok (.if_icmp .gt 17, 3) := by decide +kernel
theorem dX7_longestRun_12 : decode cX7_longestRun 12 = .ok (.aload_n 0, 1) := by decide +kernel
theorem dX7_longestRun_13 : decode cX7_longestRun 13 = .ok (.getfield 40, 3) := by decide +kernel
theorem dX7_longestRun_16 : decode cX7_longestRun 16 = .ok (.iload 4, 2) := by decide +kernel
theorem dX7_longestRun_18 : decode cX7_longestRun 18 = .ok (.iconst 0, 1) := by decide +kernel
theorem dX7_longestRun_19 : decode cX7_longestRun 19 = .ok (.iastore, 1) := by decide +kernel
theorem dX7_longestRun_20 : decode cX7_longestRun 20 = .ok (.iinc 4 1, 3) := by decide +kernel
theorem dX7_longestRun_23 : decode cX7_longestRun 23 = .ok (.goto (-18), 3) := by decide +kernel
theorem dX7_longestRun_26 : decode cX7_longestRun 26 = .ok (.iconst 0, 1) := by decide +kernel
theorem dX7_longestRun_27 : decode cX7_longestRun 27 = .ok (.istore 4, 2) := by decide +kernel
theorem dX7_longestRun_29 : decode cX7_longestRun 29 = .ok (.iload 4, 2) := by decide +kernel
theorem dX7_longestRun_31 : decode cX7_longestRun 31 = .ok (.aload_n 0, 1) := by decide +kernel
theorem dX7_longestRun_32 : decode cX7_longestRun 32 = .ok (.iload_n 1, 1) := by decide +kernel
theorem dX7_longestRun_33 : decode cX7_longestRun 33 = .ok (.invokevirtual 58, 3) := by decide +kernel
theorem dX7_longestRun_36 : decode cX7_longestRun 36 = .ok (.if_icmp .ge 91, 3) := by decide +kernel
theorem dX7_longestRun_39 : decode cX7_longestRun 39 = .ok (.aload_n 0, 1) := by decide +kernel
theorem dX7_longestRun_40 : decode cX7_longestRun 40 = .ok (.iload_n 2, 1) := by decide +kernel
theorem dX7_longestRun_41 : decode cX7_longestRun 41 = .ok (.invokevirtual 58, 3) := by decide +kernel
theorem dX7_longestRun_44 : decode cX7_longestRun 44 = .ok (.istore 5, 2) := by decide +kernel
theorem dX7_longestRun_46 : decode cX7_longestRun 46 = .ok (.iload 5, 2) := by decide +kernel
theorem dX7_longestRun_48 : decode cX7_longestRun 48 = .ok (.ifCond .le 73, 3) := by decide +kernel
theorem dX7_longestRun_51 : decode cX7_longestRun 51 = .ok (.aload_n 0, 1) := by decide +kernel
theorem dX7_longestRun_52 : decode cX7_longestRun 52 = .ok (.getfield 40, 3) := by decide +kernel
theorem dX7_longestRun_55 : decode cX7_longestRun 55 = .ok (.iload 5, 2) := by decide +kernel
theorem dX7_longestRun_57 : decode cX7_longestRun 57 = .ok (.aload_n 0, 1) := by decide +kernel
theorem dX7_longestRun_58 : decode cX7_longestRun 58 = .ok (.iload_n 1, 1) := by decide +kernel
theorem dX7_longestRun_59 : decode cX7_longestRun 59 = .ok (.iload 4, 2) := by decide +kernel
theorem dX7_longestRun_61 : decode cX7_longestRun 61 = .ok (.invokevirtual 55, 3) := by decide +kernel
theorem dX7_longestRun_64 : decode cX7_longestRun 64 = .ok (.aload_n 0, 1) := by decide +kernel
theorem dX7_longestRun_65 : decode cX7_longestRun 65 = .ok (.iload_n 2, 1) := by decide +kernel
theorem dX7_longestRun_66 : decode cX7_longestRun 66 = .ok (.iload 5, 2) := by decide +kernel
theorem dX7_longestRun_68 : decode cX7_longestRun 68 = .ok (.iconst 1, 1) := by decide +kernel
theorem dX7_longestRun_69 : decode cX7_longestRun 69 = .ok (.isub, 1) := by decide +kernel
theorem dX7_longestRun_70 : decode cX7_longestRun 70 = .ok (.invokevirtual 55, 3) := by decide +kernel
theorem dX7_longestRun_73 : decode cX7_longestRun 73 = .ok (.if_icmp .ne 17, 3) := by decide +kernel
theorem dX7_longestRun_76 : decode cX7_longestRun 76 = .ok (.aload_n 0, 1) := by decide +kernel
theorem dX7_longestRun_77 : decode cX7_longestRun 77 = .ok (.getfield 40, 3) := by decide +kernel
theorem dX7_longestRun_80 : decode cX7_longestRun 80 = .ok (.iload 5, 2) := by decide +kernel
theorem dX7_longestRun_82 : decode cX7_longestRun 82 = .ok (.iconst 1, 1) := by decide +kernel
theorem dX7_longestRun_83 : decode cX7_longestRun 83 = .ok (.isub, 1) := by decide +kernel
theorem dX7_longestRun_84 : decode cX7_longestRun 84 = .ok (.iaload, 1) := by decide +kernel
theorem dX7_longestRun_85 : decode cX7_longestRun 85 = .ok (.iconst 1, 1) := by decide +kernel
theorem dX7_longestRun_86 : decode cX7_longestRun 86 = .ok (.iadd, 1) := by decide +kernel
theorem dX7_longestRun_87 : decode cX7_longestRun 87 = .ok (.goto 4, 3) := by decide +kernel
theorem dX7_longestRun_90 : decode cX7_longestRun 90 = .ok (.iconst 0, 1) := by decide +kernel
theorem dX7_longestRun_91 : decode cX7_longestRun 91 = .ok (.iastore, 1) := by decide +kernel
theorem dX7_longestRun_92 : decode cX7_longestRun 92 = .ok (.aload_n 0, 1) := by decide +kernel
theorem dX7_longestRun_93 : decode cX7_longestRun 93 = .ok (.getfield 40, 3) := by decide +kernel
theorem dX7_longestRun_96 : decode cX7_longestRun 96 = .ok (.iload 5, 2) := by decide +kernel
theorem dX7_longestRun_98 : decode cX7_longestRun 98 = .ok (.iaload, 1) := by decide +kernel
theorem dX7_longestRun_99 : decode cX7_longestRun 99 = .ok (.iload_n 3, 1) := by decide +kernel
theorem dX7_longestRun_100 : decode cX7_longestRun 100 = .ok (.if_icmp .le 13, 3) := by decide +kernel
theorem dX7_longestRun_103 : decode cX7_longestRun 103 = .ok (.aload_n 0, 1) := by decide +kernel
theorem dX7_longestRun_104 : decode cX7_longestRun 104 = .ok (.getfield 40, 3) := by decide +kernel
theorem dX7_longestRun_107 : decode cX7_longestRun 107 = .ok (.iload 5, 2) := by decide +kernel
theorem dX7_longestRun_109 : decode cX7_longestRun 109 = .ok (.iaload, 1) := by decide +kernel
theorem dX7_longestRun_110 : decode cX7_longestRun 110 = .ok (.goto 4, 3) := by decide +kernel
theorem dX7_longestRun_113 : decode cX7_longestRun 113 = .ok (.iload_n 3, 1) := by decide +kernel
theorem dX7_longestRun_114 : decode cX7_longestRun 114 = .ok (.istore_n 3, 1) := by decide +kernel
theorem dX7_longestRun_115 : decode cX7_longestRun 115 = .ok (.iinc 5 (-1), 3) := by decide +kernel
theorem dX7_longestRun_118 : decode cX7_longestRun 118 = .ok (.goto (-72), 3) := by decide +kernel
theorem dX7_longestRun_121 : decode cX7_longestRun 121 = .ok (.iinc 4 1, 3) := by decide +kernel
theorem dX7_longestRun_124 : decode cX7_longestRun 124 = .ok (.goto (-95), 3) := by decide +kernel
theorem dX7_longestRun_127 : decode cX7_longestRun 127 = .ok (.iload_n 3, 1) := by decide +kernel
theorem dX7_longestRun_128 : decode cX7_longestRun 128 = .ok (.ireturn, 1) := by decide +kernel
theorem dX7_common_0 : decode cX7_common 0 = .ok (.aload_n 0, 1) := by decide +kernel
theorem dX7_common_1 : decode cX7_common 1 = .ok (.iload_n 1, 1) := by decide +kernel
theorem dX7_common_2 : decode cX7_common 2 = .ok (.invokevirtual 216, 3) := by decide +kernel
theorem dX7_common_5 : decode cX7_common 5 = .ok (.ifCond .eq 20, 3) := by decide +kernel
theorem dX7_common_8 : decode cX7_common 8 = .ok (.aload_n 0, 1) := by decide +kernel
theorem dX7_common_9 : decode cX7_common 9 = .ok (.iload_n 2, 1) := by decide +kernel
theorem dX7_common_10 : decode cX7_common 10 = .ok (.invokevirtual 216, 3) := by decide +kernel
theorem dX7_common_13 : decode cX7_common 13 = .ok (.ifCond .eq 12, 3) := by decide +kernel
theorem dX7_common_16 : decode cX7_common 16 = .ok (.aload_n 0, 1) := by decide +kernel
theorem dX7_common_17 : decode cX7_common 17 = .ok (.iload_n 1, 1) := by decide +kernel
theorem dX7_common_18 : decode cX7_common 18 = .ok (.iload_n 2, 1) := by decide +kernel
theorem dX7_common_19 : decode cX7_common 19 = .ok (.invokevirtual 249, 3) := by decide +kernel
theorem dX7_common_22 : decode cX7_common 22 = .ok (.goto 4, 3) := by decide +kernel
theorem dX7_common_25 : decode cX7_common 25 = .ok (.iconst (-1), 1) := by decide +kernel
theorem dX7_common_26 : decode cX7_common 26 = .ok (.ireturn, 1) := by decide +kernel
theorem dX7_closest_0 : decode cX7_closest 0 = .ok (.aload_n 0, 1) := by decide +kernel
theorem dX7_closest_1 : decode cX7_closest 1 = .ok (.iload_n 1, 1) := by decide +kernel
theorem dX7_closest_2 : decode cX7_closest 2 = .ok (.invokevirtual 216, 3) := by decide +kernel
theorem dX7_closest_5 : decode cX7_closest 5 = .ok (.ifCond .ne 5, 3) := by decide +kernel
theorem dX7_closest_8 : decode cX7_closest 8 = .ok (.iconst (-1), 1) := by decide +kernel
theorem dX7_closest_9 : decode cX7_closest 9 = .ok (.ireturn, 1) := by decide +kernel
theorem dX7_closest_10 : decode cX7_closest 10 = .ok (.bipush (-6), 2) := by decide +kernel
theorem dX7_closest_12 : decode cX7_closest 12 = .ok (.istore_n 2, 1) := by decide +kernel
theorem dX7_closest_13 : decode cX7_closest 13 = .ok (.iconst 0, 1) := by decide +kernel
theorem dX7_closest_14 : decode cX7_closest 14 = .ok (.istore_n 3, 1) := by decide +kernel
theorem dX7_closest_15 : decode cX7_closest 15 = .ok (.iconst 0, 1) := by decide +kernel
theorem dX7_closest_16 : decode cX7_closest 16 = .ok (.istore 4, 2) := by decide +kernel
theorem dX7_closest_18 : decode cX7_closest 18 = .ok (.iload 4, 2) := by decide +kernel
theorem dX7_closest_20 : decode cX7_closest 20 = .ok (.aload_n 0, 1) := by decide +kernel
theorem dX7_closest_21 : decode cX7_closest 21 = .ok (.getfield 7, 3) := by decide +kernel
theorem dX7_closest_24 : decode cX7_closest 24 = .ok (.iconst 0, 1) := by decide +kernel
theorem dX7_closest_25 : decode cX7_closest 25 = .ok (.iaload, 1) := by decide +kernel
theorem dX7_closest_26 : decode cX7_closest 26 = .ok (.if_icmp .ge 52, 3) := by decide +kernel
theorem dX7_closest_29 : decode cX7_closest 29 = .ok (.iload 4, 2) := by decide +kernel
theorem dX7_closest_31 : decode cX7_closest 31 = .ok (.iload_n 1, 1) := by decide +kernel
theorem dX7_closest_32 : decode cX7_closest 32 = .ok (.if_icmp .ne 7, 3) := by decide +kernel
theorem dX7_closest_35 : decode cX7_closest 35 = .ok (.iconst 0, 1) := by decide +kernel
theorem dX7_closest_36 : decode cX7_closest 36 = .ok (.goto 10, 3) := by decide +kernel
theorem dX7_closest_39 : decode cX7_closest 39 = .ok (.aload_n 0, 1) := by decide +kernel
theorem dX7_closest_40 : decode cX7_closest 40 = .ok (.iload_n 1, 1) := by decide +kernel
theorem dX7_closest_41 : decode cX7_closest 41 = .ok (.iload 4, 2) := by decide +kernel
theorem dX7_closest_43 : decode cX7_closest 43 = .ok (.invokevirtual 249, 3) := by decide +kernel
theorem dX7_closest_46 : decode cX7_closest 46 = .ok (.istore 5, 2) := by decide +kernel
theorem dX7_closest_48 : decode cX7_closest 48 = .ok (.iload 4, 2) := by decide +kernel
theorem dX7_closest_50 : decode cX7_closest 50 = .ok (.iload_n 1, 1) := by decide +kernel
theorem dX7_closest_51 : decode cX7_closest 51 = .ok (.if_icmp .eq 21, 3) := by decide +kernel
theorem dX7_closest_54 : decode cX7_closest 54 = .ok (.iload_n 2, 1) := by decide +kernel
theorem dX7_closest_55 : decode cX7_closest 55 = .ok (.bipush (-6), 2) := by decide +kernel
theorem dX7_closest_57 : decode cX7_closest 57 = .ok (.if_icmp .eq 9, 3) := by decide +kernel
theorem dX7_closest_60 : decode cX7_closest 60 = .ok (.iload 5, 2) := by decide +kernel
theorem dX7_closest_62 : decode cX7_closest 62 = .ok (.iload_n 3, 1) := by decide +kernel
theorem dX7_closest_63 : decode cX7_closest 63 = .ok (.if_icmp .le 9, 3) := by decide +kernel
theorem dX7_closest_66 : decode cX7_closest 66 = .ok (.iload 4, 2) := by decide +kernel
theorem dX7_closest_68 : decode cX7_closest 68 = .ok (.istore_n 2, 1) := by decide +kernel
theorem dX7_closest_69 : decode cX7_closest 69 = .ok (.iload 5, 2) := by decide +kernel
theorem dX7_closest_71 : decode cX7_closest 71 = .ok (.istore_n 3, 1) := by decide +kernel
theorem dX7_closest_72 : decode cX7_closest 72 = .ok (.iinc 4 1, 3) := by decide +kernel
theorem dX7_closest_75 : decode cX7_closest 75 = .ok (.goto (-57), 3) := by decide +kernel
theorem dX7_closest_78 : decode cX7_closest 78 = .ok (.iload_n 2, 1) := by decide +kernel
theorem dX7_closest_79 : decode cX7_closest 79 = .ok (.ireturn, 1) := by decide +kernel
theorem dX7_unknown_0 : decode cX7_unknown 0 = .ok (.aload_n 0, 1) := by decide +kernel
theorem dX7_unknown_1 : decode cX7_unknown 1 = .ok (.invokevirtual 252, 3) := by decide +kernel
theorem dX7_unknown_4 : decode cX7_unknown 4 = .ok (.aload_n 0, 1) := by decide +kernel
theorem dX7_unknown_5 : decode cX7_unknown 5 = .ok (.invokevirtual 255, 3) := by decide +kernel
theorem dX7_unknown_8 : decode cX7_unknown 8 = .ok (.ireturn, 1) := by decide +kernel
theorem dX7_hardest_0 : decode cX7_hardest 0 = .ok (.aload_n 0, 1) := by decide +kernel
theorem dX7_hardest_1 : decode cX7_hardest 1 = .ok (.invokevirtual 252, 3) := by decide +kernel
theorem dX7_hardest_4 : decode cX7_hardest 4 = .ok (.aload_n 0, 1) := by decide +kernel
theorem dX7_hardest_5 : decode cX7_hardest 5 = .ok (.invokevirtual 258, 3) := by decide +kernel
theorem dX7_hardest_8 : decode cX7_hardest 8 = .ok (.ireturn, 1) := by decide +kernel
theorem dX7_ifAdded_0 : decode cX7_ifAdded 0 = .ok (.aload_n 0, 1) := by decide +kernel
theorem dX7_ifAdded_1 : decode cX7_ifAdded 1 = .ok (.invokevirtual 240, 3) := by decide +kernel
theorem dX7_ifAdded_4 : decode cX7_ifAdded 4 = .ok (.istore_n 1, 1) := by decide +kernel
theorem dX7_ifAdded_5 : decode cX7_ifAdded 5 = .ok (.iload_n 1, 1) := by decide +kernel
theorem dX7_ifAdded_6 : decode cX7_ifAdded 6 = .ok (.ifCond .ge 5, 3) := by decide +kernel
theorem dX7_ifAdded_9 : decode cX7_ifAdded 9 = .ok (.iload_n 1, 1) := by decide +kernel
theorem dX7_ifAdded_10 : decode cX7_ifAdded 10 = .ok (.ireturn, 1) := by decide +kernel
theorem dX7_ifAdded_11 : decode cX7_ifAdded 11 = .ok (.aload_n 0, 1) := by decide +kernel
theorem dX7_ifAdded_12 : decode cX7_ifAdded 12 = .ok (.invokevirtual 252, 3) := by decide +kernel
theorem dX7_ifAdded_15 : decode cX7_ifAdded 15 = .ok (.aload_n 0, 1) := by decide +kernel
theorem dX7_ifAdded_16 : decode cX7_ifAdded 16 = .ok (.getfield 7, 3) := by decide +kernel
theorem dX7_ifAdded_19 : decode cX7_ifAdded 19 = .ok (.iconst 0, 1) := by decide +kernel
theorem dX7_ifAdded_20 : decode cX7_ifAdded 20 = .ok (.iaload, 1) := by decide +kernel
theorem dX7_ifAdded_21 : decode cX7_ifAdded 21 = .ok (.istore_n 2, 1) := by decide +kernel
theorem dX7_ifAdded_22 : decode cX7_ifAdded 22 = .ok (.aload_n 0, 1) := by decide +kernel
theorem dX7_ifAdded_23 : decode cX7_ifAdded 23 = .ok (.iconst 0, 1) := by decide +kernel
theorem dX7_ifAdded_24 : decode cX7_ifAdded 24 = .ok (.aload_n 0, 1) := by decide +kernel
theorem dX7_ifAdded_25 : decode cX7_ifAdded 25 = .ok (.getfield 120, 3) := by decide +kernel
theorem dX7_ifAdded_28 : decode cX7_ifAdded 28 = .ok (.invokevirtual 222, 3) := by decide +kernel
theorem dX7_ifAdded_31 : decode cX7_ifAdded 31 = .ok (.pop, 1) := by decide +kernel
theorem dX7_ifAdded_32 : decode cX7_ifAdded 32 = .ok (.aload_n 0, 1) := by decide +kernel
theorem dX7_ifAdded_33 : decode cX7_ifAdded 33 = .ok (.invokevirtual 87, 3) := by decide +kernel
theorem dX7_ifAdded_36 : decode cX7_ifAdded 36 = .ok (.iconst 0, 1) := by decide +kernel
theorem dX7_ifAdded_37 : decode cX7_ifAdded 37 = .ok (.istore_n 3, 1) := by decide +kernel
theorem dX7_ifAdded_38 : decode cX7_ifAdded 38 = .ok (.iconst 0, 1) := by decide +kernel
theorem dX7_ifAdded_39 : decode cX7_ifAdded 39 = .ok (.istore 4, 2) := by decide +kernel
theorem dX7_ifAdded_41 : decode cX7_ifAdded 41 = .ok (.iload 4, 2) := by decide +kernel
theorem dX7_ifAdded_43 : decode cX7_ifAdded 43 = .ok (.iload_n 2, 1) := by decide +kernel
theorem dX7_ifAdded_44 : decode cX7_ifAdded 44 = .ok (.if_icmp .ge 52, 3) := by decide +kernel
theorem dX7_ifAdded_47 : decode cX7_ifAdded 47 = .ok (.aload_n 0, 1) := by decide +kernel
theorem dX7_ifAdded_48 : decode cX7_ifAdded 48 = .ok (.iload 4, 2) := by decide +kernel
theorem dX7_ifAdded_50 : decode cX7_ifAdded 50 = .ok (.iconst 1, 1) := by decide +kernel
theorem dX7_ifAdded_51 : decode cX7_ifAdded 51 = .ok (.invokevirtual 116, 3) := by decide +kernel
theorem dX7_ifAdded_54 : decode cX7_ifAdded 54 = .ok (.iload_n 3, 1) := by decide +kernel
theorem dX7_ifAdded_55 : decode cX7_ifAdded 55 = .ok (.aload_n 0, 1) := by decide +kernel
theorem dX7_ifAdded_56 : decode cX7_ifAdded 56 = .ok (.getfield 110, 3) := by decide +kernel
theorem dX7_ifAdded_59 : decode cX7_ifAdded 59 = .ok (.aload_n 0, 1) := by decide +kernel
theorem dX7_ifAdded_60 : decode cX7_ifAdded 60 = .ok (.getfield 34, 3) := by decide +kernel
theorem dX7_ifAdded_63 : decode cX7_ifAdded 63 = .ok (.iload 4, 2) := by decide +kernel
theorem dX7_ifAdded_65 : decode cX7_ifAdded 65 = .ok (.iaload, 1) := by decide +kernel
theorem dX7_ifAdded_66 : decode cX7_ifAdded 66 = .ok (.if_icmp .ne 21, 3) := by decide +kernel
theorem dX7_ifAdded_69 : decode cX7_ifAdded 69 = .ok (.aload_n 0, 1) := by decide +kernel
theorem dX7_ifAdded_70 : decode cX7_ifAdded 70 = .ok (.getfield 113, 3) := by decide +kernel
theorem dX7_ifAdded_73 : decode cX7_ifAdded 73 = .ok (.aload_n 0, 1) := by decide +kernel
theorem dX7_ifAdded_74 : decode cX7_ifAdded 74 = .ok (.getfield 37, 3) := by decide +kernel
theorem dX7_ifAdded_77 : decode cX7_ifAdded 77 = .ok (.iload 4, 2) := by decide +kernel
theorem dX7_ifAdded_79 : decode cX7_ifAdded 79 = .ok (.iaload, 1) := by decide +kernel
theorem dX7_ifAdded_80 : decode cX7_ifAdded 80 = .ok (.if_icmp .ne 7, 3) := by decide +kernel
theorem dX7_ifAdded_83 : decode cX7_ifAdded 83 = .ok (.iconst 0, 1) := by decide +kernel
theorem dX7_ifAdded_84 : decode cX7_ifAdded 84 = .ok (.goto 4, 3) := by decide +kernel
theorem dX7_ifAdded_87 : decode cX7_ifAdded 87 = .ok (.iconst 1, 1) := by decide +kernel
theorem dX7_ifAdded_88 : decode cX7_ifAdded 88 = .ok (.iadd, 1) := by decide +kernel
theorem dX7_ifAdded_89 : decode cX7_ifAdded 89 = .ok (.istore_n 3, 1) := by decide +kernel
theorem dX7_ifAdded_90 : decode cX7_ifAdded 90 = .ok (.iinc 4 1, 3) := by decide +kernel
theorem dX7_ifAdded_93 : decode cX7_ifAdded 93 = .ok (.goto (-52), 3) := by decide +kernel
theorem dX7_ifAdded_96 : decode cX7_ifAdded 96 = .ok (.aload_n 0, 1) := by decide +kernel
theorem dX7_ifAdded_97 : decode cX7_ifAdded 97 = .ok (.iload_n 2, 1) := by decide +kernel
theorem dX7_ifAdded_98 : decode cX7_ifAdded 98 = .ok (.invokevirtual 225, 3) := by decide +kernel
theorem dX7_ifAdded_101 : decode cX7_ifAdded 101 = .ok (.pop, 1) := by decide +kernel
theorem dX7_ifAdded_102 : decode cX7_ifAdded 102 = .ok (.iload_n 3, 1) := by decide +kernel
theorem dX7_ifAdded_103 : decode cX7_ifAdded 103 = .ok (.ireturn, 1) := by decide +kernel
theorem dX7_setMode_0 : decode cX7_setMode 0 = .ok (.iload_n 1, 1) := by decide +kernel
theorem dX7_setMode_1 : decode cX7_setMode 1 = .ok (.iconst 0, 1) := by decide +kernel
theorem dX7_setMode_2 : decode cX7_setMode 2 = .ok (.iconst 3, 1) := by decide +kernel
theorem dX7_setMode_3 : decode cX7_setMode 3 = .ok (.invokestatic 47, 3) := by decide +kernel
theorem dX7_setMode_6 : decode cX7_setMode 6 = .ok (.ifCond .ne 6, 3) := by decide +kernel
theorem dX7_setMode_9 : decode cX7_setMode 9 = .ok (.bipush (-2), 2) := by decide +kernel
theorem dX7_setMode_11 : decode cX7_setMode 11 = .ok (.ireturn, 1) := by decide +kernel
theorem dX7_setMode_12 : decode cX7_setMode 12 = .ok (.aload_n 0, 1) := by decide +kernel
theorem dX7_setMode_13 : decode cX7_setMode 13 = .ok (.invokevirtual 231, 3) := by decide +kernel
theorem dX7_setMode_16 : decode cX7_setMode 16 = .ok (.aload_n 0, 1) := by decide +kernel
theorem dX7_setMode_17 : decode cX7_setMode 17 = .ok (.getfield 7, 3) := by decide +kernel
theorem dX7_setMode_20 : decode cX7_setMode 20 = .ok (.iconst 1, 1) := by decide +kernel
theorem dX7_setMode_21 : decode cX7_setMode 21 = .ok (.iaload, 1) := by decide +kernel
theorem dX7_setMode_22 : decode cX7_setMode 22 = .ok (.istore_n 2, 1) := by decide +kernel
theorem dX7_setMode_23 : decode cX7_setMode 23 = .ok (.aload_n 0, 1) := by decide +kernel
theorem dX7_setMode_24 : decode cX7_setMode 24 = .ok (.getfield 7, 3) := by decide +kernel
theorem dX7_setMode_27 : decode cX7_setMode 27 = .ok (.iconst 1, 1) := by decide +kernel
theorem dX7_setMode_28 : decode cX7_setMode 28 = .ok (.iload_n 1, 1) := by decide +kernel
theorem dX7_setMode_29 : decode cX7_setMode 29 = .ok (.iastore, 1) := by decide +kernel
theorem dX7_setMode_30 : decode cX7_setMode 30 = .ok (.iload_n 2, 1) := by decide +kernel
theorem dX7_setMode_31 : decode cX7_setMode 31 = .ok (.ireturn, 1) := by decide +kernel
theorem dX7_setOrder_0 : decode cX7_setOrder 0 = .ok (.iload_n 1, 1) := by decide +kernel
theorem dX7_setOrder_1 : decode cX7_setOrder 1 = .ok (.iconst 0, 1) := by decide +kernel
theorem dX7_setOrder_2 : decode cX7_setOrder 2 = .ok (.iconst 2, 1) := by decide +kernel
theorem dX7_setOrder_3 : decode cX7_setOrder 3 = .ok (.invokestatic 47, 3) := by decide +kernel
theorem dX7_setOrder_6 : decode cX7_setOrder 6 = .ok (.ifCond .ne 6, 3) := by decide +kernel
theorem dX7_setOrder_9 : decode cX7_setOrder 9 = .ok (.bipush (-2), 2) := by decide +kernel
theorem dX7_setOrder_11 : decode cX7_setOrder 11 = .ok (.ireturn, 1) := by decide +kernel
theorem dX7_setOrder_12 : decode cX7_setOrder 12 = .ok (.aload_n 0, 1) := by decide +kernel
theorem dX7_setOrder_13 : decode cX7_setOrder 13 = .ok (.invokevirtual 231, 3) := by decide +kernel
theorem dX7_setOrder_16 : decode cX7_setOrder 16 = .ok (.aload_n 0, 1) := by decide +kernel
theorem dX7_setOrder_17 : decode cX7_setOrder 17 = .ok (.getfield 7, 3) := by decide +kernel
theorem dX7_setOrder_20 : decode cX7_setOrder 20 = .ok (.iconst 2, 1) := by decide +kernel
theorem dX7_setOrder_21 : decode cX7_setOrder 21 = .ok (.iaload, 1) := by decide +kernel
theorem dX7_setOrder_22 : decode cX7_setOrder 22 = .ok (.istore_n 2, 1) := by decide +kernel
theorem dX7_setOrder_23 : decode cX7_setOrder 23 = .ok (.aload_n 0, 1) := by decide +kernel
theorem dX7_setOrder_24 : decode cX7_setOrder 24 = .ok (.getfield 7, 3) := by decide +kernel
theorem dX7_setOrder_27 : decode cX7_setOrder 27 = .ok (.iconst 2, 1) := by decide +kernel
theorem dX7_setOrder_28 : decode cX7_setOrder 28 = .ok (.iload_n 1, 1) := by decide +kernel
theorem dX7_setOrder_29 : decode cX7_setOrder 29 = .ok (.iastore, 1) := by decide +kernel
theorem dX7_setOrder_30 : decode cX7_setOrder 30 = .ok (.iload_n 2, 1) := by decide +kernel
theorem dX7_setOrder_31 : decode cX7_setOrder 31 = .ok (.ireturn, 1) := by decide +kernel
theorem dX7_mode_0 : decode cX7_mode 0 = .ok (.aload_n 0, 1) := by decide +kernel
theorem dX7_mode_1 : decode cX7_mode 1 = .ok (.getfield 7, 3) := by decide +kernel
theorem dX7_mode_4 : decode cX7_mode 4 = .ok (.iconst 1, 1) := by decide +kernel
theorem dX7_mode_5 : decode cX7_mode 5 = .ok (.iaload, 1) := by decide +kernel
theorem dX7_mode_6 : decode cX7_mode 6 = .ok (.ireturn, 1) := by decide +kernel
theorem dX7_order_0 : decode cX7_order 0 = .ok (.aload_n 0, 1) := by decide +kernel
theorem dX7_order_1 : decode cX7_order 1 = .ok (.getfield 7, 3) := by decide +kernel
theorem dX7_order_4 : decode cX7_order 4 = .ok (.iconst 2, 1) := by decide +kernel
theorem dX7_order_5 : decode cX7_order 5 = .ok (.iaload, 1) := by decide +kernel
theorem dX7_order_6 : decode cX7_order 6 = .ok (.ireturn, 1) := by decide +kernel
theorem dX7_resultsMany_0 : decode cX7_resultsMany 0 = .ok (.aload_n 0, 1) := by decide +kernel
theorem dX7_resultsMany_1 : decode cX7_resultsMany 1 = .ok (.invokevirtual 210, 3) := by decide +kernel
theorem dX7_resultsMany_4 : decode cX7_resultsMany 4 = .ok (.aload_n 0, 1) := by decide +kernel
theorem dX7_resultsMany_5 : decode cX7_resultsMany 5 = .ok (.getfield 93, 3) := by decide +kernel
theorem dX7_resultsMany_8 : decode cX7_resultsMany 8 = .ok (.ireturn, 1) := by decide +kernel
theorem dX7_ask_0 : decode cX7_ask 0 = .ok (.iload_n 1, 1) := by decide +kernel
theorem dX7_ask_1 : decode cX7_ask 1 = .ok (.invokestatic 137, 3) := by decide +kernel
theorem dX7_ask_4 : decode cX7_ask 4 = .ok (.ifCond .ne 12, 3) := by decide +kernel
theorem dX7_ask_7 : decode cX7_ask 7 = .ok (.iload_n 1, 1) := by decide +kernel
theorem dX7_ask_8 : decode cX7_ask 8 = .ok (.bipush 32, 2) := by decide +kernel
theorem dX7_ask_10 : decode cX7_ask 10 = .ok (.if_icmp .eq 6, 3) := by decide +kernel
theorem dX7_ask_13 : decode cX7_ask 13 = .ok (.bipush (-2), 2) := by decide +kernel
theorem dX7_ask_15 : decode cX7_ask 15 = .ok (.ireturn, 1) := by decide +kernel
theorem dX7_ask_16 : decode cX7_ask 16 = .ok (.aload_n 0, 1) := by decide +kernel
theorem dX7_ask_17 : decode cX7_ask 17 = .ok (.getfield 7, 3) := by decide +kernel
theorem dX7_ask_20 : decode cX7_ask 20 = .ok (.iconst 3, 1) := by decide +kernel
theorem dX7_ask_21 : decode cX7_ask 21 = .ok (.iaload, 1) := by decide +kernel
theorem dX7_ask_22 : decode cX7_ask 22 = .ok (.istore_n 2, 1) := by decide +kernel
theorem dX7_ask_23 : decode cX7_ask 23 = .ok (.iload_n 1, 1) := by decide +kernel
theorem dX7_ask_24 : decode cX7_ask 24 = .ok (.bipush 32, 2) := by decide +kernel
theorem dX7_ask_26 : decode cX7_ask 26 = .ok (.if_icmp .ne 25, 3) := by decide +kernel
theorem dX7_ask_29 : decode cX7_ask 29 = .ok (.iload_n 2, 1) := by decide +kernel
theorem dX7_ask_30 : decode cX7_ask 30 = .ok (.ifCond .eq 18, 3) := by decide +kernel
theorem dX7_ask_33 : decode cX7_ask 33 = .ok (.aload_n 0, 1) := by decide +kernel
theorem dX7_ask_34 : decode cX7_ask 34 = .ok (.getfield 7, 3) := by decide +kernel
theorem dX7_ask_37 : decode cX7_ask 37 = .ok (.iconst 4, 1) := by decide +kernel
theorem dX7_ask_38 : decode cX7_ask 38 = .ok (.iload_n 2, 1) := by decide +kernel
theorem dX7_ask_39 : decode cX7_ask 39 = .ok (.iadd, 1) := by decide +kernel
theorem dX7_ask_40 : decode cX7_ask 40 = .ok (.iconst 1, 1) := by decide +kernel
theorem dX7_ask_41 : decode cX7_ask 41 = .ok (.isub, 1) := by decide +kernel
theorem dX7_ask_42 : decode cX7_ask 42 = .ok (.iaload, 1) := by decide +kernel
theorem dX7_ask_43 : decode cX7_ask 43 = .ok (.bipush 32, 2) := by decide +kernel
theorem dX7_ask_45 : decode cX7_ask 45 = .ok (.if_icmp .ne 6, 3) := by decide +kernel
theorem dX7_ask_48 : decode cX7_ask 48 = .ok (.bipush (-3), 2) := by decide +kernel
theorem dX7_ask_50 : decode cX7_ask 50 = .ok (.ireturn, 1) := by decide +kernel
theorem dX7_ask_51 : decode cX7_ask 51 = .ok (.iload_n 2, 1) := by decide +kernel
theorem dX7_ask_52 : decode cX7_ask 52 = .ok (.bipush 24, 2) := by decide +kernel
theorem dX7_ask_54 : decode cX7_ask 54 = .ok (.if_icmp .ne 6, 3) := by decide +kernel
theorem dX7_ask_57 : decode cX7_ask 57 = .ok (.bipush (-4), 2) := by decide +kernel
theorem dX7_ask_59 : decode cX7_ask 59 = .ok (.ireturn, 1) := by decide +kernel
theorem dX7_ask_60 : decode cX7_ask 60 = .ok (.aload_n 0, 1) := by decide +kernel
theorem dX7_ask_61 : decode cX7_ask 61 = .ok (.invokevirtual 231, 3) := by decide +kernel
theorem dX7_ask_64 : decode cX7_ask 64 = .ok (.aload_n 0, 1) := by decide +kernel
theorem dX7_ask_65 : decode cX7_ask 65 = .ok (.getfield 7, 3) := by decide +kernel
theorem dX7_ask_68 : decode cX7_ask 68 = .ok (.iconst 4, 1) := by decide +kernel
theorem dX7_ask_69 : decode cX7_ask 69 = .ok (.iload_n 2, 1) := by decide +kernel
theorem dX7_ask_70 : decode cX7_ask 70 = .ok (.iadd, 1) := by decide +kernel
theorem dX7_ask_71 : decode cX7_ask 71 = .ok (.iload_n 1, 1) := by decide +kernel
theorem dX7_ask_72 : decode cX7_ask 72 = .ok (.iastore, 1) := by decide +kernel
theorem dX7_ask_73 : decode cX7_ask 73 = .ok (.aload_n 0, 1) := by decide +kernel
theorem dX7_ask_74 : decode cX7_ask 74 = .ok (.getfield 7, 3) := by decide +kernel
theorem dX7_ask_77 : decode cX7_ask 77 = .ok (.iconst 3, 1) := by decide +kernel
theorem dX7_ask_78 : decode cX7_ask 78 = .ok (.dup2, 1) := by decide +kernel
theorem dX7_ask_79 : decode cX7_ask 79 = .ok (.iaload, 1) := by decide +kernel
theorem dX7_ask_80 : decode cX7_ask 80 = .ok (.iconst 1, 1) := by decide +kernel
theorem dX7_ask_81 : decode cX7_ask 81 = .ok (.iadd, 1) := by decide +kernel
theorem dX7_ask_82 : decode cX7_ask 82 = .ok (.iastore, 1) := by decide +kernel
theorem dX7_ask_83 : decode cX7_ask 83 = .ok (.aload_n 0, 1) := by decide +kernel
theorem dX7_ask_84 : decode cX7_ask 84 = .ok (.invokevirtual 261, 3) := by decide +kernel
theorem dX7_ask_87 : decode cX7_ask 87 = .ok (.ireturn, 1) := by decide +kernel
theorem dX7_erase_0 : decode cX7_erase 0 = .ok (.aload_n 0, 1) := by decide +kernel
theorem dX7_erase_1 : decode cX7_erase 1 = .ok (.getfield 7, 3) := by decide +kernel
theorem dX7_erase_4 : decode cX7_erase 4 = .ok (.iconst 3, 1) := by decide +kernel
theorem dX7_erase_5 : decode cX7_erase 5 = .ok (.iaload, 1) := by decide +kernel
theorem dX7_erase_6 : decode cX7_erase 6 = .ok (.ifCond .ne 6, 3) := by decide +kernel
theorem dX7_erase_9 : decode cX7_erase 9 = .ok (.bipush (-3), 2) := by decide +kernel
theorem dX7_erase_11 : decode cX7_erase 11 = .ok (.ireturn, 1) := by decide +kernel
theorem dX7_erase_12 : decode cX7_erase 12 = .ok (.aload_n 0, 1) := by decide +kernel
theorem dX7_erase_13 : decode cX7_erase 13 = .ok (.invokevirtual 231, 3) := by decide +kernel
theorem dX7_erase_16 : decode cX7_erase 16 = .ok (.aload_n 0, 1) := by decide +kernel
theorem dX7_erase_17 : decode cX7_erase 17 = .ok (.getfield 7, 3) := by decide +kernel
theorem dX7_erase_20 : decode cX7_erase 20 = .ok (.iconst 3, 1) := by decide +kernel
theorem dX7_erase_21 : decode cX7_erase 21 = .ok (.dup2, 1) := by decide +kernel
theorem dX7_erase_22 : decode cX7_erase 22 = .ok (.iaload, 1) := by decide +kernel
theorem dX7_erase_23 : decode cX7_erase 23 = .ok (.iconst 1, 1) := by decide +kernel
theorem dX7_erase_24 : decode cX7_erase 24 = .ok (.isub, 1) := by decide +kernel
theorem dX7_erase_25 : decode cX7_erase 25 = .ok (.iastore, 1) := by decide +kernel
theorem dX7_erase_26 : decode cX7_erase 26 = .ok (.aload_n 0, 1) := by decide +kernel
theorem dX7_erase_27 : decode cX7_erase 27 = .ok (.getfield 7, 3) := by decide +kernel
theorem dX7_erase_30 : decode cX7_erase 30 = .ok (.iconst 4, 1) := by decide +kernel
theorem dX7_erase_31 : decode cX7_erase 31 = .ok (.aload_n 0, 1) := by decide +kernel
theorem dX7_erase_32 : decode cX7_erase 32 = .ok (.getfield 7, 3) := by decide +kernel
theorem dX7_erase_35 : decode cX7_erase 35 = .ok (.iconst 3, 1) := by decide +kernel
theorem dX7_erase_36 : decode cX7_erase 36 = .ok (.iaload, 1) := by decide +kernel
theorem dX7_erase_37 : decode cX7_erase 37 = .ok (.iadd, 1) := by decide +kernel
theorem dX7_erase_38 : decode cX7_erase 38 = .ok (.iconst 0, 1) := by decide +kernel
theorem dX7_erase_39 : decode cX7_erase 39 = .ok (.iastore, 1) := by decide +kernel
theorem dX7_erase_40 : decode cX7_erase 40 = .ok (.aload_n 0, 1) := by decide +kernel
theorem dX7_erase_41 : decode cX7_erase 41 = .ok (.invokevirtual 261, 3) := by decide +kernel
theorem dX7_erase_44 : decode cX7_erase 44 = .ok (.ireturn, 1) := by decide +kernel
theorem dX7_queryLength_0 : decode cX7_queryLength 0 = .ok (.aload_n 0, 1) := by decide +kernel
theorem dX7_queryLength_1 : decode cX7_queryLength 1 = .ok (.getfield 7, 3) := by decide +kernel
theorem dX7_queryLength_4 : decode cX7_queryLength 4 = .ok (.iconst 3, 1) := by decide +kernel
theorem dX7_queryLength_5 : decode cX7_queryLength 5 = .ok (.iaload, 1) := by decide +kernel
theorem dX7_queryLength_6 : decode cX7_queryLength 6 = .ok (.ireturn, 1) := by decide +kernel
theorem dX7_queryCharacter_0 : decode cX7_queryCharacter 0 = .ok (.iload_n 1, 1) := by decide +kernel
theorem dX7_queryCharacter_1 : decode cX7_queryCharacter 1 = .ok (.iconst 0, 1) := by decide +kernel
theorem dX7_queryCharacter_2 : decode cX7_queryCharacter 2 = .ok (.aload_n 0, 1) := by decide +kernel
theorem dX7_queryCharacter_3 : decode cX7_queryCharacter 3 = .ok (.getfield 7, 3) := by decide +kernel
theorem dX7_queryCharacter_6 : decode cX7_queryCharacter 6 = .ok (.iconst 3, 1) := by decide +kernel
theorem dX7_queryCharacter_7 : decode cX7_queryCharacter 7 = .ok (.iaload, 1) := by decide +kernel
theorem dX7_queryCharacter_8 : decode cX7_queryCharacter 8 = .ok (.iconst 1, 1) := by decide +kernel
theorem dX7_queryCharacter_9 : decode cX7_queryCharacter 9 = .ok (.isub, 1) := by decide +kernel
theorem dX7_queryCharacter_10 : decode cX7_queryCharacter 10 = .ok (.invokestatic 47, 3) := by decide +kernel
theorem dX7_queryCharacter_13 : decode cX7_queryCharacter 13 = .ok (.ifCond .eq 14, 3) := by decide +kernel
theorem dX7_queryCharacter_16 : decode cX7_queryCharacter 16 = .ok (.aload_n 0, 1) := by decide +kernel
theorem dX7_queryCharacter_17 : decode cX7_queryCharacter 17 = .ok (.getfield 7, 3) := by decide +kernel
theorem dX7_queryCharacter_20 : decode cX7_queryCharacter 20 = .ok (.iconst 4, 1) := by decide +kernel
theorem dX7_queryCharacter_21 : decode cX7_queryCharacter 21 = .ok (.iload_n 1, 1) := by decide +kernel
theorem dX7_queryCharacter_22 : decode cX7_queryCharacter 22 = .ok (.iadd, 1) := by decide +kernel
theorem dX7_queryCharacter_23 : decode cX7_queryCharacter 23 = .ok (.iaload, 1) := by decide +kernel
theorem dX7_queryCharacter_24 : decode cX7_queryCharacter 24 = .ok (.goto 4, 3) := by decide +kernel
theorem dX7_queryCharacter_27 : decode cX7_queryCharacter 27 = .ok (.iconst (-1), 1) := by decide +kernel
theorem dX7_queryCharacter_28 : decode cX7_queryCharacter 28 = .ok (.ireturn, 1) := by decide +kernel
theorem dX7_results_0 : decode cX7_results 0 = .ok (.aload_n 0, 1) := by decide +kernel
theorem dX7_results_1 : decode cX7_results 1 = .ok (.invokevirtual 261, 3) := by decide +kernel
theorem dX7_results_4 : decode cX7_results 4 = .ok (.ireturn, 1) := by decide +kernel
theorem dX7_result_0 : decode cX7_result 0 = .ok (.aload_n 0, 1) := by decide +kernel
theorem dX7_result_1 : decode cX7_result 1 = .ok (.iload_n 1, 1) := by decide +kernel
theorem dX7_result_2 : decode cX7_result 2 = .ok (.invokevirtual 219, 3) := by decide +kernel
theorem dX7_result_5 : decode cX7_result 5 = .ok (.ifCond .eq 12, 3) := by decide +kernel
theorem dX7_result_8 : decode cX7_result 8 = .ok (.aload_n 0, 1) := by decide +kernel
theorem dX7_result_9 : decode cX7_result 9 = .ok (.getfield 28, 3) := by decide +kernel
theorem dX7_result_12 : decode cX7_result 12 = .ok (.iload_n 1, 1) := by decide +kernel
theorem dX7_result_13 : decode cX7_result 13 = .ok (.iaload, 1) := by decide +kernel
theorem dX7_result_14 : decode cX7_result 14 = .ok (.goto 4, 3) := by decide +kernel
theorem dX7_result_17 : decode cX7_result 17 = .ok (.iconst (-1), 1) := by decide +kernel
theorem dX7_result_18 : decode cX7_result 18 = .ok (.ireturn, 1) := by decide +kernel
theorem dX7_matchPlace_0 : decode cX7_matchPlace 0 = .ok (.aload_n 0, 1) := by decide +kernel
theorem dX7_matchPlace_1 : decode cX7_matchPlace 1 = .ok (.iload_n 1, 1) := by decide +kernel
theorem dX7_matchPlace_2 : decode cX7_matchPlace 2 = .ok (.invokevirtual 219, 3) := by decide +kernel
theorem dX7_matchPlace_5 : decode cX7_matchPlace 5 = .ok (.ifCond .eq 17, 3) := by decide +kernel
theorem dX7_matchPlace_8 : decode cX7_matchPlace 8 = .ok (.aload_n 0, 1) := by decide +kernel
theorem dX7_matchPlace_9 : decode cX7_matchPlace 9 = .ok (.getfield 31, 3) := by decide +kernel
theorem dX7_matchPlace_12 : decode cX7_matchPlace 12 = .ok (.aload_n 0, 1) := by decide +kernel
theorem dX7_matchPlace_13 : decode cX7_matchPlace 13 = .ok (.getfield 28, 3) := by decide +kernel
theorem dX7_matchPlace_16 : decode cX7_matchPlace 16 = .ok (.iload_n 1, 1) := by decide +kernel
theorem dX7_matchPlace_17 : decode cX7_matchPlace 17 = .ok (.iaload, 1) := by decide +kernel
theorem dX7_matchPlace_18 : decode cX7_matchPlace 18 = .ok (.iaload, 1) := by decide +kernel
theorem dX7_matchPlace_19 : decode cX7_matchPlace 19 = .ok (.goto 4, 3) := by decide +kernel
theorem dX7_matchPlace_22 : decode cX7_matchPlace 22 = .ok (.iconst (-1), 1) := by decide +kernel
theorem dX7_matchPlace_23 : decode cX7_matchPlace 23 = .ok (.ireturn, 1) := by decide +kernel
theorem dX7_pick_0 : decode cX7_pick 0 = .ok (.aload_n 0, 1) := by decide +kernel
theorem dX7_pick_1 : decode cX7_pick 1 = .ok (.iload_n 1, 1) := by decide +kernel
theorem dX7_pick_2 : decode cX7_pick 2 = .ok (.invokevirtual 219, 3) := by decide +kernel
theorem dX7_pick_5 : decode cX7_pick 5 = .ok (.ifCond .ne 5, 3) := by decide +kernel
theorem dX7_pick_8 : decode cX7_pick 8 = .ok (.iconst (-1), 1) := by decide +kernel
theorem dX7_pick_9 : decode cX7_pick 9 = .ok (.ireturn, 1) := by decide +kernel
theorem dX7_pick_10 : decode cX7_pick 10 = .ok (.aload_n 0, 1) := by decide +kernel
theorem dX7_pick_11 : decode cX7_pick 11 = .ok (.invokevirtual 231, 3) := by decide +kernel
theorem dX7_pick_14 : decode cX7_pick 14 = .ok (.aload_n 0, 1) := by decide +kernel
theorem dX7_pick_15 : decode cX7_pick 15 = .ok (.iload_n 1, 1) := by decide +kernel
theorem dX7_pick_16 : decode cX7_pick 16 = .ok (.invokevirtual 228, 3) := by decide +kernel
theorem dX7_pick_19 : decode cX7_pick 19 = .ok (.ireturn, 1) := by decide +kernel
theorem dX7_undo_0 : decode cX7_undo 0 = .ok (.aload_n 0, 1) := by decide +kernel
theorem dX7_undo_1 : decode cX7_undo 1 = .ok (.getfield 43, 3) := by decide +kernel
theorem dX7_undo_4 : decode cX7_undo 4 = .ok (.ifCond .ne 6, 3) := by decide +kernel
theorem dX7_undo_7 : decode cX7_undo 7 = .ok (.bipush (-3), 2) := by decide +kernel
theorem dX7_undo_9 : decode cX7_undo 9 = .ok (.ireturn, 1) := by decide +kernel
theorem dX7_undo_10 : decode cX7_undo 10 = .ok (.aload_n 0, 1) := by decide +kernel
theorem dX7_undo_11 : decode cX7_undo 11 = .ok (.dup, 1) := by decide +kernel
theorem dX7_undo_12 : decode cX7_undo 12 = .ok (.getfield 43, 3) := by decide +kernel
theorem dX7_undo_15 : decode cX7_undo 15 = .ok (.iconst 1, 1) := by decide +kernel
theorem dX7_undo_16 : decode cX7_undo 16 = .ok (.isub, 1) := by decide +kernel
theorem dX7_undo_17 : decode cX7_undo 17 = .ok (.putfield 43, 3) := by decide +kernel
theorem dX7_undo_20 : decode cX7_undo 20 = .ok (.iconst 0, 1) := by decide +kernel
theorem dX7_undo_21 : decode cX7_undo 21 = .ok (.istore_n 1, 1) := by decide +kernel
theorem dX7_undo_22 : decode cX7_undo 22 = .ok (.iload_n 1, 1) := by decide +kernel
theorem dX7_undo_23 : decode cX7_undo 23 = .ok (.sipush 444, 3) := by decide +kernel
theorem dX7_undo_26 : decode cX7_undo 26 = .ok (.if_icmp .ge 30, 3) := by decide +kernel
theorem dX7_undo_29 : decode cX7_undo 29 = .ok (.aload_n 0, 1) := by decide +kernel
theorem dX7_undo_30 : decode cX7_undo 30 = .ok (.getfield 7, 3) := by decide +kernel
theorem dX7_undo_33 : decode cX7_undo 33 = .ok (.iload_n 1, 1) := by decide +kernel
theorem dX7_undo_34 : decode cX7_undo 34 = .ok (.aload_n 0, 1) := by decide +kernel
theorem dX7_undo_35 : decode cX7_undo 35 = .ok (.getfield 13, 3) := by decide +kernel
theorem dX7_undo_38 : decode cX7_undo 38 = .ok (.aload_n 0, 1) := by decide +kernel
theorem dX7_undo_39 : decode cX7_undo 39 = .ok (.getfield 43, 3) := by decide +kernel
theorem dX7_undo_42 : decode cX7_undo 42 = .ok (.sipush 444, 3) := by decide +kernel
theorem dX7_undo_45 : decode cX7_undo 45 = .ok (.imul, 1) := by decide +kernel
theorem dX7_undo_46 : decode cX7_undo 46 = .ok (.iload_n 1, 1) := by decide +kernel
theorem dX7_undo_47 : decode cX7_undo 47 = .ok (.iadd, 1) := by decide +kernel
theorem dX7_undo_48 : decode cX7_undo 48 = .ok (.iaload, 1) := by decide +kernel
theorem dX7_undo_49 : decode cX7_undo 49 = .ok (.iastore, 1) := by decide +kernel
theorem dX7_undo_50 : decode cX7_undo 50 = .ok (.iinc 1 1, 3) := by decide +kernel
theorem dX7_undo_53 : decode cX7_undo 53 = .ok (.goto (-31), 3) := by decide +kernel
theorem dX7_undo_56 : decode cX7_undo 56 = .ok (.aload_n 0, 1) := by decide +kernel
theorem dX7_undo_57 : decode cX7_undo 57 = .ok (.getfield 43, 3) := by decide +kernel
theorem dX7_undo_60 : decode cX7_undo 60 = .ok (.ireturn, 1) := by decide +kernel
theorem dX7_digest_0 : decode cX7_digest 0 = .ok (.ldc2_w 264, 3) := by decide +kernel
theorem dX7_digest_3 : decode cX7_digest 3 = .ok (.lstore_n 1, 1) := by decide +kernel
theorem dX7_digest_4 : decode cX7_digest 4 = .ok (.ldc2_w 266, 3) := by decide +kernel
theorem dX7_digest_7 : decode cX7_digest 7 = .ok (.lload_n 1, 1) := by decide +kernel
theorem dX7_digest_8 : decode cX7_digest 8 = .ok (.lmul, 1) := by decide +kernel
theorem dX7_digest_9 : decode cX7_digest 9 = .ok (.aload_n 0, 1) := by decide +kernel
theorem dX7_digest_10 : decode cX7_digest 10 = .ok (.getfield 7, 3) := by decide +kernel
theorem dX7_digest_13 : decode cX7_digest 13 = .ok (.iconst 0, 1) := by decide +kernel
theorem dX7_digest_14 : decode cX7_digest 14 = .ok (.iaload, 1) := by decide +kernel
theorem dX7_digest_15 : decode cX7_digest 15 = .ok (.i2l, 1) := by decide +kernel
theorem dX7_digest_16 : decode cX7_digest 16 = .ok (.ladd, 1) := by decide +kernel
theorem dX7_digest_17 : decode cX7_digest 17 = .ok (.lstore_n 1, 1) := by decide +kernel
theorem dX7_digest_18 : decode cX7_digest 18 = .ok (.aload_n 0, 1) := by decide +kernel
theorem dX7_digest_19 : decode cX7_digest 19 = .ok (.invokevirtual 252, 3) := by decide +kernel
theorem dX7_digest_22 : decode cX7_digest 22 = .ok (.iconst 0, 1) := by decide +kernel
theorem dX7_digest_23 : decode cX7_digest 23 = .ok (.istore_n 3, 1) := by decide +kernel
theorem dX7_digest_24 : decode cX7_digest 24 = .ok (.iload_n 3, 1) := by decide +kernel
theorem dX7_digest_25 : decode cX7_digest 25 = .ok (.aload_n 0, 1) := by decide +kernel
theorem dX7_digest_26 : decode cX7_digest 26 = .ok (.getfield 7, 3) := by decide +kernel
theorem dX7_digest_29 : decode cX7_digest 29 = .ok (.iconst 0, 1) := by decide +kernel
theorem dX7_digest_30 : decode cX7_digest 30 = .ok (.iaload, 1) := by decide +kernel
theorem dX7_digest_31 : decode cX7_digest 31 = .ok (.if_icmp .ge 141, 3) := by decide +kernel
theorem dX7_digest_34 : decode cX7_digest 34 = .ok (.ldc2_w 266, 3) := by decide +kernel
theorem dX7_digest_37 : decode cX7_digest 37 = .ok (.lload_n 1, 1) := by decide +kernel
theorem dX7_digest_38 : decode cX7_digest 38 = .ok (.lmul, 1) := by decide +kernel
theorem dX7_digest_39 : decode cX7_digest 39 = .ok (.aload_n 0, 1) := by decide +kernel
theorem dX7_digest_40 : decode cX7_digest 40 = .ok (.iload_n 3, 1) := by decide +kernel
theorem dX7_digest_41 : decode cX7_digest 41 = .ok (.invokevirtual 58, 3) := by decide +kernel
theorem dX7_digest_44 : decode cX7_digest 44 = .ok (.i2l, 1) := by decide +kernel
theorem dX7_digest_45 : decode cX7_digest 45 = .ok (.ladd, 1) := by decide +kernel
theorem dX7_digest_46 : decode cX7_digest 46 = .ok (.lstore_n 1, 1) := by decide +kernel
theorem dX7_digest_47 : decode cX7_digest 47 = .ok (.ldc2_w 266, 3) := by decide +kernel
theorem dX7_digest_50 : decode cX7_digest 50 = .ok (.lload_n 1, 1) := by decide +kernel
theorem dX7_digest_51 : decode cX7_digest 51 = .ok (.lmul, 1) := by decide +kernel
theorem dX7_digest_52 : decode cX7_digest 52 = .ok (.aload_n 0, 1) := by decide +kernel
theorem dX7_digest_53 : decode cX7_digest 53 = .ok (.iload_n 3, 1) := by decide +kernel
theorem dX7_digest_54 : decode cX7_digest 54 = .ok (.invokevirtual 243, 3) := by decide +kernel
theorem dX7_digest_57 : decode cX7_digest 57 = .ok (.i2l, 1) := by decide +kernel
theorem dX7_digest_58 : decode cX7_digest 58 = .ok (.ladd, 1) := by decide +kernel
theorem dX7_digest_59 : decode cX7_digest 59 = .ok (.lstore_n 1, 1) := by decide +kernel
theorem dX7_digest_60 : decode cX7_digest 60 = .ok (.ldc2_w 266, 3) := by decide +kernel
theorem dX7_digest_63 : decode cX7_digest 63 = .ok (.lload_n 1, 1) := by decide +kernel
theorem dX7_digest_64 : decode cX7_digest 64 = .ok (.lmul, 1) := by decide +kernel
theorem dX7_digest_65 : decode cX7_digest 65 = .ok (.aload_n 0, 1) := by decide +kernel
theorem dX7_digest_66 : decode cX7_digest 66 = .ok (.iload_n 3, 1) := by decide +kernel
theorem dX7_digest_67 : decode cX7_digest 67 = .ok (.iconst 1, 1) := by decide +kernel
theorem dX7_digest_68 : decode cX7_digest 68 = .ok (.invokevirtual 51, 3) := by decide +kernel
theorem dX7_digest_71 : decode cX7_digest 71 = .ok (.i2l, 1) := by decide +kernel
theorem dX7_digest_72 : decode cX7_digest 72 = .ok (.ladd, 1) := by decide +kernel
theorem dX7_digest_73 : decode cX7_digest 73 = .ok (.lstore_n 1, 1) := by decide +kernel
theorem dX7_digest_74 : decode cX7_digest 74 = .ok (.ldc2_w 266, 3) := by decide +kernel
theorem dX7_digest_77 : decode cX7_digest 77 = .ok (.lload_n 1, 1) := by decide +kernel
theorem dX7_digest_78 : decode cX7_digest 78 = .ok (.lmul, 1) := by decide +kernel
theorem dX7_digest_79 : decode cX7_digest 79 = .ok (.aload_n 0, 1) := by decide +kernel
theorem dX7_digest_80 : decode cX7_digest 80 = .ok (.getfield 34, 3) := by decide +kernel
theorem dX7_digest_83 : decode cX7_digest 83 = .ok (.iload_n 3, 1) := by decide +kernel
theorem dX7_digest_84 : decode cX7_digest 84 = .ok (.iaload, 1) := by decide +kernel
theorem dX7_digest_85 : decode cX7_digest 85 = .ok (.i2l, 1) := by decide +kernel
theorem dX7_digest_86 : decode cX7_digest 86 = .ok (.ladd, 1) := by decide +kernel
theorem dX7_digest_87 : decode cX7_digest 87 = .ok (.lstore_n 1, 1) := by decide +kernel
theorem dX7_digest_88 : decode cX7_digest 88 = .ok (.ldc2_w 266, 3) := by decide +kernel
theorem dX7_digest_91 : decode cX7_digest 91 = .ok (.lload_n 1, 1) := by decide +kernel
theorem dX7_digest_92 : decode cX7_digest 92 = .ok (.lmul, 1) := by decide +kernel
theorem dX7_digest_93 : decode cX7_digest 93 = .ok (.aload_n 0, 1) := by decide +kernel
theorem dX7_digest_94 : decode cX7_digest 94 = .ok (.getfield 37, 3) := by decide +kernel
theorem dX7_digest_97 : decode cX7_digest 97 = .ok (.iload_n 3, 1) := by decide +kernel
theorem dX7_digest_98 : decode cX7_digest 98 = .ok (.iaload, 1) := by decide +kernel
theorem dX7_digest_99 : decode cX7_digest 99 = .ok (.i2l, 1) := by decide +kernel
theorem dX7_digest_100 : decode cX7_digest 100 = .ok (.ladd, 1) := by decide +kernel
theorem dX7_digest_101 : decode cX7_digest 101 = .ok (.lstore_n 1, 1) := by decide +kernel
theorem dX7_digest_102 : decode cX7_digest 102 = .ok (.aload_n 0, 1) := by decide +kernel
theorem dX7_digest_103 : decode cX7_digest 103 = .ok (.iload_n 3, 1) := by decide +kernel
theorem dX7_digest_104 : decode cX7_digest 104 = .ok (.iconst 0, 1) := by decide +kernel
theorem dX7_digest_105 : decode cX7_digest 105 = .ok (.invokevirtual 116, 3) := by decide +kernel
theorem dX7_digest_108 : decode cX7_digest 108 = .ok (.ldc2_w 266, 3) := by decide +kernel
theorem dX7_digest_111 : decode cX7_digest 111 = .ok (.lload_n 1, 1) := by decide +kernel
theorem dX7_digest_112 : decode cX7_digest 112 = .ok (.lmul, 1) := by decide +kernel
theorem dX7_digest_113 : decode cX7_digest 113 = .ok (.aload_n 0, 1) := by decide +kernel
theorem dX7_digest_114 : decode cX7_digest 114 = .ok (.getfield 110, 3) := by decide +kernel
theorem dX7_digest_117 : decode cX7_digest 117 = .ok (.i2l, 1) := by decide +kernel
theorem dX7_digest_118 : decode cX7_digest 118 = .ok (.ladd, 1) := by decide +kernel
theorem dX7_digest_119 : decode cX7_digest 119 = .ok (.lstore_n 1, 1) := by decide +kernel
theorem dX7_digest_120 : decode cX7_digest 120 = .ok (.ldc2_w 266, 3) := by decide +kernel
theorem dX7_digest_123 : decode cX7_digest 123 = .ok (.lload_n 1, 1) := by decide +kernel
theorem dX7_digest_124 : decode cX7_digest 124 = .ok (.lmul, 1) := by decide +kernel
theorem dX7_digest_125 : decode cX7_digest 125 = .ok (.aload_n 0, 1) := by decide +kernel
theorem dX7_digest_126 : decode cX7_digest 126 = .ok (.getfield 113, 3) := by decide +kernel
theorem dX7_digest_129 : decode cX7_digest 129 = .ok (.i2l, 1) := by decide +kernel
theorem dX7_digest_130 : decode cX7_digest 130 = .ok (.ladd, 1) := by decide +kernel
theorem dX7_digest_131 : decode cX7_digest 131 = .ok (.lstore_n 1, 1) := by decide +kernel
theorem dX7_digest_132 : decode cX7_digest 132 = .ok (.iconst 0, 1) := by decide +kernel
theorem dX7_digest_133 : decode cX7_digest 133 = .ok (.istore 4, 2) := by decide +kernel
theorem dX7_digest_135 : decode cX7_digest 135 = .ok (.iload 4, 2) := by decide +kernel
theorem dX7_digest_137 : decode cX7_digest 137 = .ok (.aload_n 0, 1) := by decide +kernel
theorem dX7_digest_138 : decode cX7_digest 138 = .ok (.iload_n 3, 1) := by decide +kernel
theorem dX7_digest_139 : decode cX7_digest 139 = .ok (.invokevirtual 58, 3) := by decide +kernel
theorem dX7_digest_142 : decode cX7_digest 142 = .ok (.if_icmp .ge 24, 3) := by decide +kernel
theorem dX7_digest_145 : decode cX7_digest 145 = .ok (.ldc2_w 266, 3) := by decide +kernel
theorem dX7_digest_148 : decode cX7_digest 148 = .ok (.lload_n 1, 1) := by decide +kernel
theorem dX7_digest_149 : decode cX7_digest 149 = .ok (.lmul, 1) := by decide +kernel
theorem dX7_digest_150 : decode cX7_digest 150 = .ok (.aload_n 0, 1) := by decide +kernel
theorem dX7_digest_151 : decode cX7_digest 151 = .ok (.iload_n 3, 1) := by decide +kernel
theorem dX7_digest_152 : decode cX7_digest 152 = .ok (.iload 4, 2) := by decide +kernel
theorem dX7_digest_154 : decode cX7_digest 154 = .ok (.invokevirtual 55, 3) := by decide +kernel
theorem dX7_digest_157 : decode cX7_digest 157 = .ok (.i2l, 1) := by decide +kernel
theorem dX7_digest_158 : decode cX7_digest 158 = .ok (.ladd, 1) := by decide +kernel
theorem dX7_digest_159 : decode cX7_digest 159 = .ok (.lstore_n 1, 1) := by decide +kernel
theorem dX7_digest_160 : decode cX7_digest 160 = .ok (.iinc 4 1, 3) := by decide +kernel
theorem dX7_digest_163 : decode cX7_digest 163 = .ok (.goto (-28), 3) := by decide +kernel
theorem dX7_digest_166 : decode cX7_digest 166 = .ok (.iinc 3 1, 3) := by decide +kernel
theorem dX7_digest_169 : decode cX7_digest 169 = .ok (.goto (-145), 3) := by decide +kernel
theorem dX7_digest_172 : decode cX7_digest 172 = .ok (.ldc2_w 266, 3) := by decide +kernel
theorem dX7_digest_175 : decode cX7_digest 175 = .ok (.lload_n 1, 1) := by decide +kernel
theorem dX7_digest_176 : decode cX7_digest 176 = .ok (.lmul, 1) := by decide +kernel
theorem dX7_digest_177 : decode cX7_digest 177 = .ok (.aload_n 0, 1) := by decide +kernel
theorem dX7_digest_178 : decode cX7_digest 178 = .ok (.invokevirtual 255, 3) := by decide +kernel
theorem dX7_digest_181 : decode cX7_digest 181 = .ok (.i2l, 1) := by decide +kernel
theorem dX7_digest_182 : decode cX7_digest 182 = .ok (.ladd, 1) := by decide +kernel
theorem dX7_digest_183 : decode cX7_digest 183 = .ok (.lstore_n 1, 1) := by decide +kernel
theorem dX7_digest_184 : decode cX7_digest 184 = .ok (.ldc2_w 266, 3) := by decide +kernel
theorem dX7_digest_187 : decode cX7_digest 187 = .ok (.lload_n 1, 1) := by decide +kernel
theorem dX7_digest_188 : decode cX7_digest 188 = .ok (.lmul, 1) := by decide +kernel
theorem dX7_digest_189 : decode cX7_digest 189 = .ok (.aload_n 0, 1) := by decide +kernel
theorem dX7_digest_190 : decode cX7_digest 190 = .ok (.invokevirtual 258, 3) := by decide +kernel
theorem dX7_digest_193 : decode cX7_digest 193 = .ok (.i2l, 1) := by decide +kernel
theorem dX7_digest_194 : decode cX7_digest 194 = .ok (.ladd, 1) := by decide +kernel
theorem dX7_digest_195 : decode cX7_digest 195 = .ok (.lstore_n 1, 1) := by decide +kernel
theorem dX7_digest_196 : decode cX7_digest 196 = .ok (.ldc2_w 266, 3) := by decide +kernel
theorem dX7_digest_199 : decode cX7_digest 199 = .ok (.lload_n 1, 1) := by decide +kernel
theorem dX7_digest_200 : decode cX7_digest 200 = .ok (.lmul, 1) := by decide +kernel
theorem dX7_digest_201 : decode cX7_digest 201 = .ok (.aload_n 0, 1) := by decide +kernel
theorem dX7_digest_202 : decode cX7_digest 202 = .ok (.getfield 7, 3) := by decide +kernel
theorem dX7_digest_205 : decode cX7_digest 205 = .ok (.iconst 1, 1) := by decide +kernel
theorem dX7_digest_206 : decode cX7_digest 206 = .ok (.iaload, 1) := by decide +kernel
theorem dX7_digest_207 : decode cX7_digest 207 = .ok (.i2l, 1) := by decide +kernel
theorem dX7_digest_208 : decode cX7_digest 208 = .ok (.ladd, 1) := by decide +kernel
theorem dX7_digest_209 : decode cX7_digest 209 = .ok (.lstore_n 1, 1) := by decide +kernel
theorem dX7_digest_210 : decode cX7_digest 210 = .ok (.ldc2_w 266, 3) := by decide +kernel
theorem dX7_digest_213 : decode cX7_digest 213 = .ok (.lload_n 1, 1) := by decide +kernel
theorem dX7_digest_214 : decode cX7_digest 214 = .ok (.lmul, 1) := by decide +kernel
theorem dX7_digest_215 : decode cX7_digest 215 = .ok (.aload_n 0, 1) := by decide +kernel
theorem dX7_digest_216 : decode cX7_digest 216 = .ok (.getfield 7, 3) := by decide +kernel
theorem dX7_digest_219 : decode cX7_digest 219 = .ok (.iconst 2, 1) := by decide +kernel
theorem dX7_digest_220 : decode cX7_digest 220 = .ok (.iaload, 1) := by decide +kernel
theorem dX7_digest_221 : decode cX7_digest 221 = .ok (.i2l, 1) := by decide +kernel
theorem dX7_digest_222 : decode cX7_digest 222 = .ok (.ladd, 1) := by decide +kernel
theorem dX7_digest_223 : decode cX7_digest 223 = .ok (.lstore_n 1, 1) := by decide +kernel
theorem dX7_digest_224 : decode cX7_digest 224 = .ok (.ldc2_w 266, 3) := by decide +kernel
theorem dX7_digest_227 : decode cX7_digest 227 = .ok (.lload_n 1, 1) := by decide +kernel
theorem dX7_digest_228 : decode cX7_digest 228 = .ok (.lmul, 1) := by decide +kernel
theorem dX7_digest_229 : decode cX7_digest 229 = .ok (.aload_n 0, 1) := by decide +kernel
theorem dX7_digest_230 : decode cX7_digest 230 = .ok (.getfield 7, 3) := by decide +kernel
theorem dX7_digest_233 : decode cX7_digest 233 = .ok (.iconst 3, 1) := by decide +kernel
theorem dX7_digest_234 : decode cX7_digest 234 = .ok (.iaload, 1) := by decide +kernel
theorem dX7_digest_235 : decode cX7_digest 235 = .ok (.i2l, 1) := by decide +kernel
theorem dX7_digest_236 : decode cX7_digest 236 = .ok (.ladd, 1) := by decide +kernel
theorem dX7_digest_237 : decode cX7_digest 237 = .ok (.lstore_n 1, 1) := by decide +kernel
theorem dX7_digest_238 : decode cX7_digest 238 = .ok (.iconst 0, 1) := by decide +kernel
theorem dX7_digest_239 : decode cX7_digest 239 = .ok (.istore_n 3, 1) := by decide +kernel
theorem dX7_digest_240 : decode cX7_digest 240 = .ok (.iload_n 3, 1) := by decide +kernel
theorem dX7_digest_241 : decode cX7_digest 241 = .ok (.aload_n 0, 1) := by decide +kernel
theorem dX7_digest_242 : decode cX7_digest 242 = .ok (.getfield 7, 3) := by decide +kernel
theorem dX7_digest_245 : decode cX7_digest 245 = .ok (.iconst 3, 1) := by decide +kernel
theorem dX7_digest_246 : decode cX7_digest 246 = .ok (.iaload, 1) := by decide +kernel
theorem dX7_digest_247 : decode cX7_digest 247 = .ok (.if_icmp .ge 25, 3) := by decide +kernel
theorem dX7_digest_250 : decode cX7_digest 250 = .ok (.ldc2_w 266, 3) := by decide +kernel
theorem dX7_digest_253 : decode cX7_digest 253 = .ok (.lload_n 1, 1) := by decide +kernel
theorem dX7_digest_254 : decode cX7_digest 254 = .ok (.lmul, 1) := by decide +kernel
theorem dX7_digest_255 : decode cX7_digest 255 = .ok (.aload_n 0, 1) := by decide +kernel
theorem dX7_digest_256 : decode cX7_digest 256 = .ok (.getfield 7, 3) := by decide +kernel
theorem dX7_digest_259 : decode cX7_digest 259 = .ok (.iconst 4, 1) := by decide +kernel
theorem dX7_digest_260 : decode cX7_digest 260 = .ok (.iload_n 3, 1) := by decide +kernel
theorem dX7_digest_261 : decode cX7_digest 261 = .ok (.iadd, 1) := by decide +kernel
theorem dX7_digest_262 : decode cX7_digest 262 = .ok (.iaload, 1) := by decide +kernel
theorem dX7_digest_263 : decode cX7_digest 263 = .ok (.i2l, 1) := by decide +kernel
theorem dX7_digest_264 : decode cX7_digest 264 = .ok (.ladd, 1) := by decide +kernel
theorem dX7_digest_265 : decode cX7_digest 265 = .ok (.lstore_n 1, 1) := by decide +kernel
theorem dX7_digest_266 : decode cX7_digest 266 = .ok (.iinc 3 1, 3) := by decide +kernel
theorem dX7_digest_269 : decode cX7_digest 269 = .ok (.goto (-29), 3) := by decide +kernel
theorem dX7_digest_272 : decode cX7_digest 272 = .ok (.aload_n 0, 1) := by decide +kernel
theorem dX7_digest_273 : decode cX7_digest 273 = .ok (.invokevirtual 210, 3) := by decide +kernel
theorem dX7_digest_276 : decode cX7_digest 276 = .ok (.ldc2_w 266, 3) := by decide +kernel
theorem dX7_digest_279 : decode cX7_digest 279 = .ok (.lload_n 1, 1) := by decide +kernel
theorem dX7_digest_280 : decode cX7_digest 280 = .ok (.lmul, 1) := by decide +kernel
theorem dX7_digest_281 : decode cX7_digest 281 = .ok (.aload_n 0, 1) := by decide +kernel
theorem dX7_digest_282 : decode cX7_digest 282 = .ok (.getfield 93, 3) := by decide +kernel
theorem dX7_digest_285 : decode cX7_digest 285 = .ok (.i2l, 1) := by decide +kernel
theorem dX7_digest_286 : decode cX7_digest 286 = .ok (.ladd, 1) := by decide +kernel
theorem dX7_digest_287 : decode cX7_digest 287 = .ok (.lstore_n 1, 1) := by decide +kernel
theorem dX7_digest_288 : decode cX7_digest 288 = .ok (.iconst 0, 1) := by decide +kernel
theorem dX7_digest_289 : decode cX7_digest 289 = .ok (.istore_n 3, 1) := by decide +kernel
theorem dX7_digest_290 : decode cX7_digest 290 = .ok (.iload_n 3, 1) := by decide +kernel
theorem dX7_digest_291 : decode cX7_digest 291 = .ok (.aload_n 0, 1) := by decide +kernel
theorem dX7_digest_292 : decode cX7_digest 292 = .ok (.getfield 93, 3) := by decide +kernel
theorem dX7_digest_295 : decode cX7_digest 295 = .ok (.if_icmp .ge 42, 3) := by decide +kernel
theorem dX7_digest_298 : decode cX7_digest 298 = .ok (.ldc2_w 266, 3) := by decide +kernel
theorem dX7_digest_301 : decode cX7_digest 301 = .ok (.lload_n 1, 1) := by decide +kernel
theorem dX7_digest_302 : decode cX7_digest 302 = .ok (.lmul, 1) := by decide +kernel
theorem dX7_digest_303 : decode cX7_digest 303 = .ok (.aload_n 0, 1) := by decide +kernel
theorem dX7_digest_304 : decode cX7_digest 304 = .ok (.getfield 28, 3) := by decide +kernel
theorem dX7_digest_307 : decode cX7_digest 307 = .ok (.iload_n 3, 1) := by decide +kernel
theorem dX7_digest_308 : decode cX7_digest 308 = .ok (.iaload, 1) := by decide +kernel
theorem dX7_digest_309 : decode cX7_digest 309 = .ok (.i2l, 1) := by decide +kernel
theorem dX7_digest_310 : decode cX7_digest 310 = .ok (.ladd, 1) := by decide +kernel
theorem dX7_digest_311 : decode cX7_digest 311 = .ok (.lstore_n 1, 1) := by decide +kernel
theorem dX7_digest_312 : decode cX7_digest 312 = .ok (.ldc2_w 266, 3) := by decide +kernel
theorem dX7_digest_315 : decode cX7_digest 315 = .ok (.lload_n 1, 1) := by decide +kernel
theorem dX7_digest_316 : decode cX7_digest 316 = .ok (.lmul, 1) := by decide +kernel
theorem dX7_digest_317 : decode cX7_digest 317 = .ok (.aload_n 0, 1) := by decide +kernel
theorem dX7_digest_318 : decode cX7_digest 318 = .ok (.getfield 31, 3) := by decide +kernel
theorem dX7_digest_321 : decode cX7_digest 321 = .ok (.aload_n 0, 1) := by decide +kernel
theorem dX7_digest_322 : decode cX7_digest 322 = .ok (.getfield 28, 3) := by decide +kernel
theorem dX7_digest_325 : decode cX7_digest 325 = .ok (.iload_n 3, 1) := by decide +kernel
theorem dX7_digest_326 : decode cX7_digest 326 = .ok (.iaload, 1) := by decide +kernel
theorem dX7_digest_327 : decode cX7_digest 327 = .ok (.iaload, 1) := by decide +kernel
theorem dX7_digest_328 : decode cX7_digest 328 = .ok (.i2l, 1) := by decide +kernel
theorem dX7_digest_329 : decode cX7_digest 329 = .ok (.ladd, 1) := by decide +kernel
theorem dX7_digest_330 : decode cX7_digest 330 = .ok (.lstore_n 1, 1) := by decide +kernel
theorem dX7_digest_331 : decode cX7_digest 331 = .ok (.iinc 3 1, 3) := by decide +kernel
theorem dX7_digest_334 : decode cX7_digest 334 = .ok (.goto (-44), 3) := by decide +kernel
theorem dX7_digest_337 : decode cX7_digest 337 = .ok (.lload_n 1, 1) := by decide +kernel
theorem dX7_digest_338 : decode cX7_digest 338 = .ok (.lreturn, 1) := by decide +kernel
