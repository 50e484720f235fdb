theorem dJ9_max_7cf53_0 : decode cJ9_max_7cf53 0 = .ok (.iload_n 0, 1) := by decide +kernel
theorem dJ9_max_7cf53_1 : decode cJ9_max_7cf53 1 = .ok (.iload_n 1, 1) := by decide +kernel
theorem dJ9_max_7cf53_2 : decode cJ9_max_7cf53 2 = .ok (.if_icmp .lt 7, 3) := by decide +kernel
theorem dJ9_max_7cf53_5 : decode cJ9_max_7cf53 5 = .ok (.iload_n 0, 1) := by decide +kernel
theorem dJ9_max_7cf53_6 : decode cJ9_max_7cf53 6 = .ok (.goto 4, 3) := by decide +kernel
theorem dJ9_max_7cf53_9 : decode cJ9_max_7cf53 9 = .ok (.iload_n 1, 1) := by decide +kernel
theorem dJ9_max_7cf53_10 : decode cJ9_max_7cf53 10 = .ok (.ireturn, 1) := by decide +kernel
theorem dJ9_min_7cf53_0 : decode cJ9_min_7cf53 0 = .ok (.iload_n 0, 1) := by decide +kernel
theorem dJ9_min_7cf53_1 : decode cJ9_min_7cf53 1 = .ok (.iload_n 1, 1) := by decide +kernel
theorem dJ9_min_7cf53_2 : decode cJ9_min_7cf53 2 = .ok (.if_icmp .gt 7, 3) := by decide +kernel
theorem dJ9_min_7cf53_5 : decode cJ9_min_7cf53 5 = .ok (.iload_n 0, 1) := by decide +kernel
theorem dJ9_min_7cf53_6 : decode cJ9_min_7cf53 6 = .ok (.goto 4, 3) := by decide +kernel
theorem dJ9_min_7cf53_9 : decode cJ9_min_7cf53 9 = .ok (.iload_n 1, 1) := by decide +kernel
theorem dJ9_min_7cf53_10 : decode cJ9_min_7cf53 10 = .ok (.ireturn, 1) := by decide +kernel
theorem dJxa1e45_init_da8c8_0 : decode cJxa1e45_init_da8c8 0 = .ok (.aload_n 0, 1) := by decide +kernel
theorem dJxa1e45_init_da8c8_1 : decode cJxa1e45_init_da8c8 1 = .ok (.invokespecial 1, 3) := by decide +kernel
theorem dJxa1e45_init_da8c8_4 : decode cJxa1e45_init_da8c8 4 = .ok (.return_, 1) := by decide +kernel
theorem dJxc12de_init_da8c8_0 : decode cJxc12de_init_da8c8 0 = .ok (.aload_n 0, 1) := by decide +kernel
theorem dJxc12de_init_da8c8_1 : decode cJxc12de_init_da8c8 1 = .ok (.invokespecial 1, 3) := by decide +kernel
theorem dJxc12de_init_da8c8_4 : decode cJxc12de_init_da8c8 4 = .ok (.aload_n 0, 1) := by decide +kernel
theorem dJxc12de_init_da8c8_5 : decode cJxc12de_init_da8c8 5 = .ok (.iconst 0, 1) := by decide +kernel
theorem dJxc12de_init_da8c8_6 : decode cJxc12de_init_da8c8 6 = .ok (.putfield 7, 3) := by decide +kernel
theorem dJxc12de_init_da8c8_9 : decode cJxc12de_init_da8c8 9 = .ok (.return_, 1) := by decide +kernel
theorem dJx4a65c_init_da8c8_0 : decode cJx4a65c_init_da8c8 0 = .ok (.aload_n 0, 1) := by decide +kernel
theorem dJx4a65c_init_da8c8_1 : decode cJx4a65c_init_da8c8 1 = .ok (.invokespecial 1, 3) := by decide +kernel
theorem dJx4a65c_init_da8c8_4 : decode cJx4a65c_init_da8c8 4 = .ok (.aload_n 0, 1) := by decide +kernel
theorem dJx4a65c_init_da8c8_5 : decode cJx4a65c_init_da8c8 5 = .ok (.getstatic 39, 3) := by decide +kernel
theorem dJx4a65c_init_da8c8_8 : decode cJx4a65c_init_da8c8 8 = .ok (.putfield 9, 3) := by decide +kernel
theorem dJx4a65c_init_da8c8_11 : decode cJx4a65c_init_da8c8 11 = .ok (.return_, 1) := by decide +kernel
theorem dJx4a65c_grow_92f84_0 : decode cJx4a65c_grow_92f84 0 = .ok (.aload_n 0, 1) := by decide +kernel
theorem dJx4a65c_grow_92f84_1 : decode cJx4a65c_grow_92f84 1 = .ok (.getfield 9, 3) := by decide +kernel
theorem dJx4a65c_grow_92f84_4 : decode cJx4a65c_grow_92f84 4 = .ok (.arraylength, 1) := by decide +kernel
theorem dJx4a65c_grow_92f84_5 : decode cJx4a65c_grow_92f84 5 = .ok (.istore_n 2, 1) := by decide +kernel
theorem dJx4a65c_grow_92f84_6 : decode cJx4a65c_grow_92f84 6 = .ok (.iload_n 2, 1) := by decide +kernel
theorem dJx4a65c_grow_92f84_7 : decode cJx4a65c_grow_92f84 7 = .ok (.ifCond .gt 13, 3) := by decide +kernel
theorem dJx4a65c_grow_92f84_10 : decode cJx4a65c_grow_92f84 10 = .ok (.aload_n 0, 1) := by decide +kernel
theorem dJx4a65c_grow_92f84_11 : decode cJx4a65c_grow_92f84 11 = .ok (.getfield 9, 3) := by decide +kernel
theorem dJx4a65c_grow_92f84_14 : decode cJx4a65c_grow_92f84 14 = .ok (.getstatic 39, 3) := by decide +kernel
theorem dJx4a65c_grow_92f84_17 : decode cJx4a65c_grow_92f84 17 = .ok (.if_acmp .eq 28, 3) := by decide +kernel
theorem dJx4a65c_grow_92f84_20 : decode cJx4a65c_grow_92f84 20 = .ok (.iload_n 2, 1) := by decide +kernel
theorem dJx4a65c_grow_92f84_21 : decode cJx4a65c_grow_92f84 21 = .ok (.iload_n 1, 1) := by decide +kernel
theorem dJx4a65c_grow_92f84_22 : decode cJx4a65c_grow_92f84 22 = .ok (.iload_n 2, 1) := by decide +kernel
theorem dJx4a65c_grow_92f84_23 : decode cJx4a65c_grow_92f84 23 = .ok (.isub, 1) := by decide +kernel
theorem dJx4a65c_grow_92f84_24 : decode cJx4a65c_grow_92f84 24 = .ok (.iload_n 2, 1) := by decide +kernel
theorem dJx4a65c_grow_92f84_25 : decode cJx4a65c_grow_92f84 25 = .ok (.iconst 1, 1) := by decide +kernel
theorem dJx4a65c_grow_92f84_26 : decode cJx4a65c_grow_92f84 26 = .ok (.ishr, 1) := by decide +kernel
theorem dJx4a65c_grow_92f84_27 : decode cJx4a65c_grow_92f84 27 = .ok (.invokestatic 73, 3) := by decide +kernel
theorem dJx4a65c_grow_92f84_30 : decode cJx4a65c_grow_92f84 30 = .ok (.istore_n 3, 1) := by decide +kernel
theorem dJx4a65c_grow_92f84_31 : decode cJx4a65c_grow_92f84 31 = .ok (.aload_n 0, 1) := by decide +kernel
theorem dJx4a65c_grow_92f84_32 : decode cJx4a65c_grow_92f84 32 = .ok (.aload_n 0, 1) := by decide +kernel
theorem dJx4a65c_grow_92f84_33 : decode cJx4a65c_grow_92f84 33 = .ok (.getfield 9, 3) := by decide +kernel
theorem dJx4a65c_grow_92f84_36 : decode cJx4a65c_grow_92f84 36 = .ok (.iload_n 3, 1) := by decide +kernel
theorem dJx4a65c_grow_92f84_37 : decode cJx4a65c_grow_92f84 37 = .ok (.invokestatic 66, 3) := by decide +kernel
theorem dJx4a65c_grow_92f84_40 : decode cJx4a65c_grow_92f84 40 = .ok (.dup_x1, 1) := by decide +kernel
theorem dJx4a65c_grow_92f84_41 : decode cJx4a65c_grow_92f84 41 = .ok (.putfield 9, 3) := by decide +kernel
theorem dJx4a65c_grow_92f84_44 : decode cJx4a65c_grow_92f84 44 = .ok (.areturn, 1) := by decide +kernel
theorem dJx4a65c_grow_92f84_45 : decode cJx4a65c_grow_92f84 45 = .ok (.aload_n 0, 1) := by decide +kernel
theorem dJx4a65c_grow_92f84_46 : decode cJx4a65c_grow_92f84 46 = .ok (.bipush 10, 2) := by decide +kernel
theorem dJx4a65c_grow_92f84_48 : decode cJx4a65c_grow_92f84 48 = .ok (.iload_n 1, 1) := by decide +kernel
theorem dJx4a65c_grow_92f84_49 : decode cJx4a65c_grow_92f84 49 = .ok (.invokestatic 79, 3) := by decide +kernel
theorem dJx4a65c_grow_92f84_52 : decode cJx4a65c_grow_92f84 52 = .ok (.anewarray 7, 3) := by decide +kernel
theorem dJx4a65c_grow_92f84_55 : decode cJx4a65c_grow_92f84 55 = .ok (.dup_x1, 1) := by decide +kernel
theorem dJx4a65c_grow_92f84_56 : decode cJx4a65c_grow_92f84 56 = .ok (.putfield 9, 3) := by decide +kernel
theorem dJx4a65c_grow_92f84_59 : decode cJx4a65c_grow_92f84 59 = .ok (.areturn, 1) := by decide +kernel
theorem dJx4a65c_grow_d5877_0 : decode cJx4a65c_grow_d5877 0 = .ok (.aload_n 0, 1) := by decide +kernel
theorem dJx4a65c_grow_d5877_1 : decode cJx4a65c_grow_d5877 1 = .ok (.aload_n 0, 1) := by decide +kernel
theorem dJx4a65c_grow_d5877_2 : decode cJx4a65c_grow_d5877 2 = .ok (.getfield 48, 3) := by decide +kernel
theorem dJx4a65c_grow_d5877_5 : decode cJx4a65c_grow_d5877 5 = .ok (.iconst 1, 1) := by decide +kernel
theorem dJx4a65c_grow_d5877_6 : decode cJx4a65c_grow_d5877 6 = .ok (.iadd, 1) := by decide +kernel
theorem dJx4a65c_grow_d5877_7 : decode cJx4a65c_grow_d5877 7 = .ok (.invokevirtual 69, 3) := by decide +kernel
theorem dJx4a65c_grow_d5877_10 : decode cJx4a65c_grow_d5877 10 = .ok (.areturn, 1) := by decide +kernel
theorem dJx4a65c_size_8abf5_0 : decode cJx4a65c_size_8abf5 0 = .ok (.aload_n 0, 1) := by decide +kernel
theorem dJx4a65c_size_8abf5_1 : decode cJx4a65c_size_8abf5 1 = .ok (.getfield 48, 3) := by decide +kernel
theorem dJx4a65c_size_8abf5_4 : decode cJx4a65c_size_8abf5 4 = .ok (.ireturn, 1) := by decide +kernel
theorem dJx4a65c_elementData_915e3_0 : decode cJx4a65c_elementData_915e3 0 = .ok (.aload_n 0, 1) := by decide +kernel
theorem dJx4a65c_elementData_915e3_1 : decode cJx4a65c_elementData_915e3 1 = .ok (.getfield 9, 3) := by decide +kernel
theorem dJx4a65c_elementData_915e3_4 : decode cJx4a65c_elementData_915e3 4 = .ok (.iload_n 1, 1) := by decide +kernel
theorem dJx4a65c_elementData_915e3_5 : decode cJx4a65c_elementData_915e3 5 = .ok (.aaload, 1) := by decide +kernel
theorem dJx4a65c_elementData_915e3_6 : decode cJx4a65c_elementData_915e3 6 = .ok (.areturn, 1) := by decide +kernel
theorem dJx4a65c_get_915e3_0 : decode cJx4a65c_get_915e3 0 = .ok (.iload_n 1, 1) := by decide +kernel
theorem dJx4a65c_get_915e3_1 : decode cJx4a65c_get_915e3 1 = .ok (.aload_n 0, 1) := by decide +kernel
theorem dJx4a65c_get_915e3_2 : decode cJx4a65c_get_915e3 2 = .ok (.getfield 48, 3) := by decide +kernel
theorem dJx4a65c_get_915e3_5 : decode cJx4a65c_get_915e3 5 = .ok (.invokestatic 118, 3) := by decide +kernel
theorem dJx4a65c_get_915e3_8 : decode cJx4a65c_get_915e3 8 = .ok (.pop, 1) := by decide +kernel
theorem dJx4a65c_get_915e3_9 : decode cJx4a65c_get_915e3 9 = .ok (.aload_n 0, 1) := by decide +kernel
theorem dJx4a65c_get_915e3_10 : decode cJx4a65c_get_915e3 10 = .ok (.iload_n 1, 1) := by decide +kernel
theorem dJx4a65c_get_915e3_11 : decode cJx4a65c_get_915e3 11 = .ok (.invokevirtual 123, 3) := by decide +kernel
theorem dJx4a65c_get_915e3_14 : decode cJx4a65c_get_915e3 14 = .ok (.areturn, 1) := by decide +kernel
theorem dJx4a65c_set_bcc79_0 : decode cJx4a65c_set_bcc79 0 = .ok (.iload_n 1, 1) := by decide +kernel
theorem dJx4a65c_set_bcc79_1 : decode cJx4a65c_set_bcc79 1 = .ok (.aload_n 0, 1) := by decide +kernel
theorem dJx4a65c_set_bcc79_2 : decode cJx4a65c_set_bcc79 2 = .ok (.getfield 48, 3) := by decide +kernel
theorem dJx4a65c_set_bcc79_5 : decode cJx4a65c_set_bcc79 5 = .ok (.invokestatic 118, 3) := by decide +kernel
theorem dJx4a65c_set_bcc79_8 : decode cJx4a65c_set_bcc79 8 = .ok (.pop, 1) := by decide +kernel
theorem dJx4a65c_set_bcc79_9 : decode cJx4a65c_set_bcc79 9 = .ok (.aload_n 0, 1) := by decide +kernel
theorem dJx4a65c_set_bcc79_10 : decode cJx4a65c_set_bcc79 10 = .ok (.iload_n 1, 1) := by decide +kernel
theorem dJx4a65c_set_bcc79_11 : decode cJx4a65c_set_bcc79 11 = .ok (.invokevirtual 123, 3) := by decide +kernel
theorem dJx4a65c_set_bcc79_14 : decode cJx4a65c_set_bcc79 14 = .ok (.astore_n 3, 1) := by decide +kernel
theorem dJx4a65c_set_bcc79_15 : decode cJx4a65c_set_bcc79 15 = .ok (.aload_n 0, 1) := by decide +kernel
theorem dJx4a65c_set_bcc79_16 : decode cJx4a65c_set_bcc79 16 = .ok (.getfield 9, 3) := by decide +kernel
theorem dJx4a65c_set_bcc79_19 : decode cJx4a65c_set_bcc79 19 = .ok (.iload_n 1, 1) := by decide +kernel
theorem dJx4a65c_set_bcc79_20 : decode cJx4a65c_set_bcc79 20 = .ok (.aload_n 2, 1) := by decide +kernel
theorem dJx4a65c_set_bcc79_21 : decode cJx4a65c_set_bcc79 21 = .ok (.aastore, 1) := by decide +kernel
theorem dJx4a65c_set_bcc79_22 : decode cJx4a65c_set_bcc79 22 = .ok (.aload_n 3, 1) := by decide +kernel
theorem dJx4a65c_set_bcc79_23 : decode cJx4a65c_set_bcc79 23 = .ok (.areturn, 1) := by decide +kernel
theorem dJx4a65c_add_72be8_0 : decode cJx4a65c_add_72be8 0 = .ok (.iload_n 3, 1) := by decide +kernel
theorem dJx4a65c_add_72be8_1 : decode cJx4a65c_add_72be8 1 = .ok (.aload_n 2, 1) := by decide +kernel
theorem dJx4a65c_add_72be8_2 : decode cJx4a65c_add_72be8 2 = .ok (.arraylength, 1) := by decide +kernel
theorem dJx4a65c_add_72be8_3 : decode cJx4a65c_add_72be8 3 = .ok (.if_icmp .ne 8, 3) := by decide +kernel
theorem dJx4a65c_add_72be8_6 : decode cJx4a65c_add_72be8 6 = .ok (.aload_n 0, 1) := by decide +kernel
theorem dJx4a65c_add_72be8_7 : decode cJx4a65c_add_72be8 7 = .ok (.invokevirtual 129, 3) := by decide +kernel
theorem dJx4a65c_add_72be8_10 : decode cJx4a65c_add_72be8 10 = .ok (.astore_n 2, 1) := by decide +kernel
theorem dJx4a65c_add_72be8_11 : decode cJx4a65c_add_72be8 11 = .ok (.aload_n 2, 1) := by decide +kernel
theorem dJx4a65c_add_72be8_12 : decode cJx4a65c_add_72be8 12 = .ok (.iload_n 3, 1) := by decide +kernel
theorem dJx4a65c_add_72be8_13 : decode cJx4a65c_add_72be8 13 = .ok (.aload_n 1, 1) := by decide +kernel
theorem dJx4a65c_add_72be8_14 : decode cJx4a65c_add_72be8 14 = .ok (.aastore, 1) := by decide +kernel
theorem dJx4a65c_add_72be8_15 : decode cJx4a65c_add_72be8 15 = .ok (.aload_n 0, 1) := by decide +kernel
theorem dJx4a65c_add_72be8_16 : decode cJx4a65c_add_72be8 16 = .ok (.iload_n 3, 1) := by decide +kernel
theorem dJx4a65c_add_72be8_17 : decode cJx4a65c_add_72be8 17 = .ok (.iconst 1, 1) := by decide +kernel
theorem dJx4a65c_add_72be8_18 : decode cJx4a65c_add_72be8 18 = .ok (.iadd, 1) := by decide +kernel
theorem dJx4a65c_add_72be8_19 : decode cJx4a65c_add_72be8 19 = .ok (.putfield 48, 3) := by decide +kernel
theorem dJx4a65c_add_72be8_22 : decode cJx4a65c_add_72be8 22 = .ok (.return_, 1) := by decide +kernel
theorem dJx4a65c_add_9ea2d_0 : decode cJx4a65c_add_9ea2d 0 = .ok (.aload_n 0, 1) := by decide +kernel
theorem dJx4a65c_add_9ea2d_1 : decode cJx4a65c_add_9ea2d 1 = .ok (.dup, 1) := by decide +kernel
theorem dJx4a65c_add_9ea2d_2 : decode cJx4a65c_add_9ea2d 2 = .ok (.getfield 63, 3) := by decide +kernel
theorem dJx4a65c_add_9ea2d_5 : decode cJx4a65c_add_9ea2d 5 = .ok (.iconst 1, 1) := by decide +kernel
theorem dJx4a65c_add_9ea2d_6 : decode cJx4a65c_add_9ea2d 6 = .ok (.iadd, 1) := by decide +kernel
theorem dJx4a65c_add_9ea2d_7 : decode cJx4a65c_add_9ea2d 7 = .ok (.putfield 63, 3) := by decide +kernel
theorem dJx4a65c_add_9ea2d_10 : decode cJx4a65c_add_9ea2d 10 = .ok (.aload_n 0, 1) := by decide +kernel
theorem dJx4a65c_add_9ea2d_11 : decode cJx4a65c_add_9ea2d 11 = .ok (.aload_n 1, 1) := by decide +kernel
theorem dJx4a65c_add_9ea2d_12 : decode cJx4a65c_add_9ea2d 12 = .ok (.aload_n 0, 1) := by decide +kernel
theorem dJx4a65c_add_9ea2d_13 : decode cJx4a65c_add_9ea2d 13 = .ok (.getfield 9, 3) := by decide +kernel
theorem dJx4a65c_add_9ea2d_16 : decode cJx4a65c_add_9ea2d 16 = .ok (.aload_n 0, 1) := by decide +kernel
theorem dJx4a65c_add_9ea2d_17 : decode cJx4a65c_add_9ea2d 17 = .ok (.getfield 48, 3) := by decide +kernel
theorem dJx4a65c_add_9ea2d_20 : decode cJx4a65c_add_9ea2d 20 = .ok (.invokevirtual 131, 3) := by decide +kernel
theorem dJx4a65c_add_9ea2d_23 : decode cJx4a65c_add_9ea2d 23 = .ok (.iconst 1, 1) := by decide +kernel
theorem dJx4a65c_add_9ea2d_24 : decode cJx4a65c_add_9ea2d 24 = .ok (.ireturn, 1) := by decide +kernel
theorem dJx4a65c_remove_915e3_0 : decode cJx4a65c_remove_915e3 0 = .ok (.iload_n 1, 1) := by decide +kernel
theorem dJx4a65c_remove_915e3_1 : decode cJx4a65c_remove_915e3 1 = .ok (.aload_n 0, 1) := by decide +kernel
theorem dJx4a65c_remove_915e3_2 : decode cJx4a65c_remove_915e3 2 = .ok (.getfield 48, 3) := by decide +kernel
theorem dJx4a65c_remove_915e3_5 : decode cJx4a65c_remove_915e3 5 = .ok (.invokestatic 118, 3) := by decide +kernel
theorem dJx4a65c_remove_915e3_8 : decode cJx4a65c_remove_915e3 8 = .ok (.pop, 1) := by decide +kernel
theorem dJx4a65c_remove_915e3_9 : decode cJx4a65c_remove_915e3 9 = .ok (.aload_n 0, 1) := by decide +kernel
theorem dJx4a65c_remove_915e3_10 : decode cJx4a65c_remove_915e3 10 = .ok (.getfield 9, 3) := by decide +kernel
theorem dJx4a65c_remove_915e3_13 : decode cJx4a65c_remove_915e3 13 = .ok (.astore_n 2, 1) := by decide +kernel
theorem dJx4a65c_remove_915e3_14 : decode cJx4a65c_remove_915e3 14 = .ok (.aload_n 2, 1) := by decide +kernel
theorem dJx4a65c_remove_915e3_15 : decode cJx4a65c_remove_915e3 15 = .ok (.iload_n 1, 1) := by decide +kernel
theorem dJx4a65c_remove_915e3_16 : decode cJx4a65c_remove_915e3 16 = .ok (.aaload, 1) := by decide +kernel
theorem dJx4a65c_remove_915e3_17 : decode cJx4a65c_remove_915e3 17 = .ok (.astore_n 3, 1) := by decide +kernel
theorem dJx4a65c_remove_915e3_18 : decode cJx4a65c_remove_915e3 18 = .ok (.aload_n 0, 1) := by decide +kernel
theorem dJx4a65c_remove_915e3_19 : decode cJx4a65c_remove_915e3 19 = .ok (.aload_n 2, 1) := by decide +kernel
theorem dJx4a65c_remove_915e3_20 : decode cJx4a65c_remove_915e3 20 = .ok (.iload_n 1, 1) := by decide +kernel
theorem dJx4a65c_remove_915e3_21 : decode cJx4a65c_remove_915e3 21 = .ok (.invokevirtual 144, 3) := by decide +kernel
theorem dJx4a65c_remove_915e3_24 : decode cJx4a65c_remove_915e3 24 = .ok (.aload_n 3, 1) := by decide +kernel
theorem dJx4a65c_remove_915e3_25 : decode cJx4a65c_remove_915e3 25 = .ok (.areturn, 1) := by decide +kernel
theorem dJx4a65c_fastRemove_b59b0_0 : decode cJx4a65c_fastRemove_b59b0 0 = .ok (.aload_n 0, 1) := by decide +kernel
theorem dJx4a65c_fastRemove_b59b0_1 : decode cJx4a65c_fastRemove_b59b0 1 = .ok (.dup, 1) := by decide +kernel
theorem dJx4a65c_fastRemove_b59b0_2 : decode cJx4a65c_fastRemove_b59b0 2 = .ok (.getfield 63, 3) := by decide +kernel
theorem dJx4a65c_fastRemove_b59b0_5 : decode cJx4a65c_fastRemove_b59b0 5 = .ok (.iconst 1, 1) := by decide +kernel
theorem dJx4a65c_fastRemove_b59b0_6 : decode cJx4a65c_fastRemove_b59b0 6 = .ok (.iadd, 1) := by decide +kernel
theorem dJx4a65c_fastRemove_b59b0_7 : decode cJx4a65c_fastRemove_b59b0 7 = .ok (.putfield 63, 3) := by decide +kernel
theorem dJx4a65c_fastRemove_b59b0_10 : decode cJx4a65c_fastRemove_b59b0 10 = .ok (.aload_n 0, 1) := by decide +kernel
theorem dJx4a65c_fastRemove_b59b0_11 : decode cJx4a65c_fastRemove_b59b0 11 = .ok (.getfield 48, 3) := by decide +kernel
theorem dJx4a65c_fastRemove_b59b0_14 : decode cJx4a65c_fastRemove_b59b0 14 = .ok (.iconst 1, 1) := by decide +kernel
theorem dJx4a65c_fastRemove_b59b0_15 : decode cJx4a65c_fastRemove_b59b0 15 = .ok (.isub, 1) := by decide +kernel
theorem dJx4a65c_fastRemove_b59b0_16 : decode cJx4a65c_fastRemove_b59b0 16 = .ok (.dup, 1) := by decide +kernel
theorem dJx4a65c_fastRemove_b59b0_17 : decode cJx4a65c_fastRemove_b59b0 17 = .ok (.istore_n 3, 1) := by decide +kernel
theorem dJx4a65c_fastRemove_b59b0_18 : decode cJx4a65c_fastRemove_b59b0 18 = .ok (.iload_n 2, 1) := by decide +kernel
theorem dJx4a65c_fastRemove_b59b0_19 : decode cJx4a65c_fastRemove_b59b0 19 = .ok (.if_icmp .le 15, 3) := by decide +kernel
theorem dJx4a65c_fastRemove_b59b0_22 : decode cJx4a65c_fastRemove_b59b0 22 = .ok (.aload_n 1, 1) := by decide +kernel
theorem dJx4a65c_fastRemove_b59b0_23 : decode cJx4a65c_fastRemove_b59b0 23 = .ok (.iload_n 2, 1) := by decide +kernel
theorem dJx4a65c_fastRemove_b59b0_24 : decode cJx4a65c_fastRemove_b59b0 24 = .ok (.iconst 1, 1) := by decide +kernel
theorem dJx4a65c_fastRemove_b59b0_25 : decode cJx4a65c_fastRemove_b59b0 25 = .ok (.iadd, 1) := by decide +kernel
theorem dJx4a65c_fastRemove_b59b0_26 : decode cJx4a65c_fastRemove_b59b0 26 = .ok (.aload_n 1, 1) := by decide +kernel
theorem dJx4a65c_fastRemove_b59b0_27 : decode cJx4a65c_fastRemove_b59b0 27 = .ok (.iload_n 2, 1) := by decide +kernel
theorem dJx4a65c_fastRemove_b59b0_28 : decode cJx4a65c_fastRemove_b59b0 28 = .ok (.iload_n 3, 1) := by decide +kernel
theorem dJx4a65c_fastRemove_b59b0_29 : decode cJx4a65c_fastRemove_b59b0 29 = .ok (.iload_n 2, 1) := by decide +kernel
theorem dJx4a65c_fastRemove_b59b0_30 : decode cJx4a65c_fastRemove_b59b0 30 = .ok (.isub, 1) := by decide +kernel
theorem dJx4a65c_fastRemove_b59b0_31 : decode cJx4a65c_fastRemove_b59b0 31 = .ok (.invokestatic 112, 3) := by decide +kernel
theorem dJx4a65c_fastRemove_b59b0_34 : decode cJx4a65c_fastRemove_b59b0 34 = .ok (.aload_n 1, 1) := by decide +kernel
theorem dJx4a65c_fastRemove_b59b0_35 : decode cJx4a65c_fastRemove_b59b0 35 = .ok (.aload_n 0, 1) := by decide +kernel
theorem dJx4a65c_fastRemove_b59b0_36 : decode cJx4a65c_fastRemove_b59b0 36 = .ok (.iload_n 3, 1) := by decide +kernel
theorem dJx4a65c_fastRemove_b59b0_37 : decode cJx4a65c_fastRemove_b59b0 37 = .ok (.dup_x1, 1) := by decide +kernel
theorem dJx4a65c_fastRemove_b59b0_38 : decode cJx4a65c_fastRemove_b59b0 38 = .ok (.putfield 48, 3) := by decide +kernel
theorem dJx4a65c_fastRemove_b59b0_41 : decode cJx4a65c_fastRemove_b59b0 41 = .ok (.aconst_null, 1) := by decide +kernel
theorem dJx4a65c_fastRemove_b59b0_42 : decode cJx4a65c_fastRemove_b59b0 42 = .ok (.aastore, 1) := by decide +kernel
theorem dJx4a65c_fastRemove_b59b0_43 : decode cJx4a65c_fastRemove_b59b0 43 = .ok (.return_, 1) := by decide +kernel
theorem dJx4a65c_clear_da8c8_0 : decode cJx4a65c_clear_da8c8 0 = .ok (.aload_n 0, 1) := by decide +kernel
theorem dJx4a65c_clear_da8c8_1 : decode cJx4a65c_clear_da8c8 1 = .ok (.dup, 1) := by decide +kernel
theorem dJx4a65c_clear_da8c8_2 : decode cJx4a65c_clear_da8c8 2 = .ok (.getfield 63, 3) := by decide +kernel
theorem dJx4a65c_clear_da8c8_5 : decode cJx4a65c_clear_da8c8 5 = .ok (.iconst 1, 1) := by decide +kernel
theorem dJx4a65c_clear_da8c8_6 : decode cJx4a65c_clear_da8c8 6 = .ok (.iadd, 1) := by decide +kernel
theorem dJx4a65c_clear_da8c8_7 : decode cJx4a65c_clear_da8c8 7 = .ok (.putfield 63, 3) := by decide +kernel
theorem dJx4a65c_clear_da8c8_10 : decode cJx4a65c_clear_da8c8 10 = .ok (.aload_n 0, 1) := by decide +kernel
theorem dJx4a65c_clear_da8c8_11 : decode cJx4a65c_clear_da8c8 11 = .ok (.getfield 9, 3) := by decide +kernel
theorem dJx4a65c_clear_da8c8_14 : decode cJx4a65c_clear_da8c8 14 = .ok (.astore_n 1, 1) := by decide +kernel
theorem dJx4a65c_clear_da8c8_15 : decode cJx4a65c_clear_da8c8 15 = .ok (.aload_n 0, 1) := by decide +kernel
theorem dJx4a65c_clear_da8c8_16 : decode cJx4a65c_clear_da8c8 16 = .ok (.getfield 48, 3) := by decide +kernel
theorem dJx4a65c_clear_da8c8_19 : decode cJx4a65c_clear_da8c8 19 = .ok (.istore_n 2, 1) := by decide +kernel
theorem dJx4a65c_clear_da8c8_20 : decode cJx4a65c_clear_da8c8 20 = .ok (.aload_n 0, 1) := by decide +kernel
theorem dJx4a65c_clear_da8c8_21 : decode cJx4a65c_clear_da8c8 21 = .ok (.iconst 0, 1) := by decide +kernel
theorem dJx4a65c_clear_da8c8_22 : decode cJx4a65c_clear_da8c8 22 = .ok (.dup_x1, 1) := by decide +kernel
theorem dJx4a65c_clear_da8c8_23 : decode cJx4a65c_clear_da8c8 23 = .ok (.putfield 48, 3) := by decide +kernel
theorem dJx4a65c_clear_da8c8_26 : decode cJx4a65c_clear_da8c8 26 = .ok (.istore_n 3, 1) := by decide +kernel
theorem dJx4a65c_clear_da8c8_27 : decode cJx4a65c_clear_da8c8 27 = .ok (.iload_n 3, 1) := by decide +kernel
theorem dJx4a65c_clear_da8c8_28 : decode cJx4a65c_clear_da8c8 28 = .ok (.iload_n 2, 1) := by decide +kernel
theorem dJx4a65c_clear_da8c8_29 : decode cJx4a65c_clear_da8c8 29 = .ok (.if_icmp .ge 13, 3) := by decide +kernel
theorem dJx4a65c_clear_da8c8_32 : decode cJx4a65c_clear_da8c8 32 = .ok (.aload_n 1, 1) := by decide +kernel
theorem dJx4a65c_clear_da8c8_33 : decode cJx4a65c_clear_da8c8 33 = .ok (.iload_n 3, 1) := by decide +kernel
theorem dJx4a65c_clear_da8c8_34 : decode cJx4a65c_clear_da8c8 34 = .ok (.aconst_null, 1) := by decide +kernel
theorem dJx4a65c_clear_da8c8_35 : decode cJx4a65c_clear_da8c8 35 = .ok (.aastore, 1) := by decide +kernel
theorem dJx4a65c_clear_da8c8_36 : decode cJx4a65c_clear_da8c8 36 = .ok (.iinc 3 1, 3) := by decide +kernel
theorem dJx4a65c_clear_da8c8_39 : decode cJx4a65c_clear_da8c8 39 = .ok (.goto (-12), 3) := by decide +kernel
theorem dJx4a65c_clear_da8c8_42 : decode cJx4a65c_clear_da8c8 42 = .ok (.return_, 1) := by decide +kernel
theorem dJ7_copyOf_1904c_0 : decode cJ7_copyOf_1904c 0 = .ok (.aload_n 0, 1) := by decide +kernel
theorem dJ7_copyOf_1904c_1 : decode cJ7_copyOf_1904c 1 = .ok (.iload_n 1, 1) := by decide +kernel
theorem dJ7_copyOf_1904c_2 : decode cJ7_copyOf_1904c 2 = .ok (.aload_n 0, 1) := by decide +kernel
theorem dJ7_copyOf_1904c_3 : decode cJ7_copyOf_1904c 3 = .ok (.invokevirtual 86, 3) := by decide +kernel
theorem dJ7_copyOf_1904c_6 : decode cJ7_copyOf_1904c 6 = .ok (.invokestatic 300, 3) := by decide +kernel
theorem dJ7_copyOf_1904c_9 : decode cJ7_copyOf_1904c 9 = .ok (.areturn, 1) := by decide +kernel
theorem dJ7_copyOf_6403c_0 : decode cJ7_copyOf_6403c 0 = .ok (.aload_n 2, 1) := by decide +kernel
theorem dJ7_copyOf_6403c_1 : decode cJ7_copyOf_6403c 1 = .ok (.ldc 110, 2) := by decide +kernel
theorem dJ7_copyOf_6403c_3 : decode cJ7_copyOf_6403c 3 = .ok (.if_acmp .ne 10, 3) := by decide +kernel
theorem dJ7_copyOf_6403c_6 : decode cJ7_copyOf_6403c 6 = .ok (.iload_n 1, 1) := by decide +kernel
theorem dJ7_copyOf_6403c_7 : decode cJ7_copyOf_6403c 7 = .ok (.anewarray 2, 3) := by decide +kernel
theorem dJ7_copyOf_6403c_10 : decode cJ7_copyOf_6403c 10 = .ok (.goto 14, 3) := by decide +kernel
theorem dJ7_copyOf_6403c_13 : decode cJ7_copyOf_6403c 13 = .ok (.aload_n 2, 1) := by decide +kernel
theorem dJ7_copyOf_6403c_14 : decode cJ7_copyOf_6403c 14 = .ok (.invokevirtual 90, 3) := by decide +kernel
theorem dJ7_copyOf_6403c_17 : decode cJ7_copyOf_6403c 17 = .ok (.iload_n 1, 1) := by decide +kernel
theorem dJ7_copyOf_6403c_18 : decode cJ7_copyOf_6403c 18 = .ok (.invokestatic 95, 3) := by decide +kernel
theorem dJ7_copyOf_6403c_21 : decode cJ7_copyOf_6403c 21 = .ok (.checkcast 110, 3) := by decide +kernel
theorem dJ7_copyOf_6403c_24 : decode cJ7_copyOf_6403c 24 = .ok (.astore_n 3, 1) := by decide +kernel
theorem dJ7_copyOf_6403c_25 : decode cJ7_copyOf_6403c 25 = .ok (.aload_n 0, 1) := by decide +kernel
theorem dJ7_copyOf_6403c_26 : decode cJ7_copyOf_6403c 26 = .ok (.iconst 0, 1) := by decide +kernel
theorem dJ7_copyOf_6403c_27 : decode cJ7_copyOf_6403c 27 = .ok (.aload_n 3, 1) := by decide +kernel
theorem dJ7_copyOf_6403c_28 : decode cJ7_copyOf_6403c 28 = .ok (.iconst 0, 1) := by decide +kernel
theorem dJ7_copyOf_6403c_29 : decode cJ7_copyOf_6403c 29 = .ok (.aload_n 0, 1) := by decide +kernel
theorem dJ7_copyOf_6403c_30 : decode cJ7_copyOf_6403c 30 = .ok (.arraylength, 1) := by decide +kernel
theorem dJ7_copyOf_6403c_31 : decode cJ7_copyOf_6403c 31 = .ok (.iload_n 1, 1) := by decide +kernel
theorem dJ7_copyOf_6403c_32 : decode cJ7_copyOf_6403c 32 = .ok (.invokestatic 304, 3) := by decide +kernel
theorem dJ7_copyOf_6403c_35 : decode cJ7_copyOf_6403c 35 = .ok (.invokestatic 150, 3) := by decide +kernel
theorem dJ7_copyOf_6403c_38 : decode cJ7_copyOf_6403c 38 = .ok (.aload_n 3, 1) := by decide +kernel
theorem dJ7_copyOf_6403c_39 : decode cJ7_copyOf_6403c 39 = .ok (.areturn, 1) := by decide +kernel
theorem dJ15_checkIndex_7cf53_0 : decode cJ15_checkIndex_7cf53 0 = .ok (.iload_n 0, 1) := by decide +kernel
theorem dJ15_checkIndex_7cf53_1 : decode cJ15_checkIndex_7cf53 1 = .ok (.iload_n 1, 1) := by decide +kernel
theorem dJ15_checkIndex_7cf53_2 : decode cJ15_checkIndex_7cf53 2 = .ok (.aconst_null, 1) := by decide +kernel
theorem dJ15_checkIndex_7cf53_3 : decode cJ15_checkIndex_7cf53 3 = .ok (.invokestatic 105, 3) := by decide +kernel
theorem dJ15_checkIndex_7cf53_6 : decode cJ15_checkIndex_7cf53 6 = .ok (.ireturn, 1) := by decide +kernel
theorem dJ8_newLength_cabcc_0 : decode cJ8_newLength_cabcc 0 = .ok (.iload_n 0, 1) := by decide +kernel
theorem dJ8_newLength_cabcc_1 : decode cJ8_newLength_cabcc 1 = .ok (.iload_n 1, 1) := by decide +kernel
theorem dJ8_newLength_cabcc_2 : decode cJ8_newLength_cabcc 2 = .ok (.iload_n 2, 1) := by decide +kernel
theorem dJ8_newLength_cabcc_3 : decode cJ8_newLength_cabcc 3 = .ok (.invokestatic 194, 3) := by decide +kernel
theorem dJ8_newLength_cabcc_6 : decode cJ8_newLength_cabcc 6 = .ok (.iadd, 1) := by decide +kernel
theorem dJ8_newLength_cabcc_7 : decode cJ8_newLength_cabcc 7 = .ok (.istore_n 3, 1) := by decide +kernel
theorem dJ8_newLength_cabcc_8 : decode cJ8_newLength_cabcc 8 = .ok (.iconst 0, 1) := by decide +kernel
theorem dJ8_newLength_cabcc_9 : decode cJ8_newLength_cabcc 9 = .ok (.iload_n 3, 1) := by decide +kernel
theorem dJ8_newLength_cabcc_10 : decode cJ8_newLength_cabcc 10 = .ok (.if_icmp .ge 11, 3) := by decide +kernel
theorem dJ8_newLength_cabcc_13 : decode cJ8_newLength_cabcc 13 = .ok (.iload_n 3, 1) := by decide +kernel
theorem dJ8_newLength_cabcc_14 : decode cJ8_newLength_cabcc 14 = .ok (.ldc 200, 2) := by decide +kernel
theorem dJ8_newLength_cabcc_16 : decode cJ8_newLength_cabcc 16 = .ok (.if_icmp .gt 5, 3) := by decide +kernel
theorem dJ8_newLength_cabcc_19 : decode cJ8_newLength_cabcc 19 = .ok (.iload_n 3, 1) := by decide +kernel
theorem dJ8_newLength_cabcc_20 : decode cJ8_newLength_cabcc 20 = .ok (.ireturn, 1) := by decide +kernel
theorem dJ8_newLength_cabcc_21 : decode cJ8_newLength_cabcc 21 = .ok (.iload_n 0, 1) := by decide +kernel
theorem dJ8_newLength_cabcc_22 : decode cJ8_newLength_cabcc 22 = .ok (.iload_n 1, 1) := by decide +kernel
theorem dJ8_newLength_cabcc_23 : decode cJ8_newLength_cabcc 23 = .ok (.invokestatic 201, 3) := by decide +kernel
theorem dJ8_newLength_cabcc_26 : decode cJ8_newLength_cabcc 26 = .ok (.ireturn, 1) := by decide +kernel
theorem dJ8_hugeLength_7cf53_0 : decode cJ8_hugeLength_7cf53 0 = .ok (.iload_n 0, 1) := by decide +kernel
theorem dJ8_hugeLength_7cf53_1 : decode cJ8_hugeLength_7cf53 1 = .ok (.iload_n 1, 1) := by decide +kernel
theorem dJ8_hugeLength_7cf53_2 : decode cJ8_hugeLength_7cf53 2 = .ok (.iadd, 1) := by decide +kernel
theorem dJ8_hugeLength_7cf53_3 : decode cJ8_hugeLength_7cf53 3 = .ok (.istore_n 2, 1) := by decide +kernel
theorem dJ8_hugeLength_7cf53_4 : decode cJ8_hugeLength_7cf53 4 = .ok (.iload_n 2, 1) := by decide +kernel
theorem dJ8_hugeLength_7cf53_5 : decode cJ8_hugeLength_7cf53 5 = .ok (.ifCond .ge 44, 3) := by decide +kernel
theorem dJ8_hugeLength_7cf53_8 : decode cJ8_hugeLength_7cf53 8 = .ok (.new 204, 3) := by decide +kernel
theorem dJ8_hugeLength_7cf53_11 : decode cJ8_hugeLength_7cf53 11 = .ok (.dup, 1) := by decide +kernel
theorem dJ8_hugeLength_7cf53_12 : decode cJ8_hugeLength_7cf53 12 = .ok (.new 89, 3) := by decide +kernel
theorem dJ8_hugeLength_7cf53_15 : decode cJ8_hugeLength_7cf53 15 = .ok (.dup, 1) := by decide +kernel
theorem dJ8_hugeLength_7cf53_16 : decode cJ8_hugeLength_7cf53 16 = .ok (.invokespecial 91, 3) := by decide +kernel
theorem dJ8_hugeLength_7cf53_19 : decode cJ8_hugeLength_7cf53 19 = .ok (.ldc 206, 2) := by decide +kernel
theorem dJ8_hugeLength_7cf53_21 : decode cJ8_hugeLength_7cf53 21 = .ok (.invokevirtual 94, 3) := by decide +kernel
theorem dJ8_hugeLength_7cf53_24 : decode cJ8_hugeLength_7cf53 24 = .ok (.iload_n 0, 1) := by decide +kernel
theorem dJ8_hugeLength_7cf53_25 : decode cJ8_hugeLength_7cf53 25 = .ok (.invokevirtual 98, 3) := by decide +kernel
theorem dJ8_hugeLength_7cf53_28 : decode cJ8_hugeLength_7cf53 28 = .ok (.ldc 208, 2) := by decide +kernel
theorem dJ8_hugeLength_7cf53_30 : decode cJ8_hugeLength_7cf53 30 = .ok (.invokevirtual 94, 3) := by decide +kernel
theorem dJ8_hugeLength_7cf53_33 : decode cJ8_hugeLength_7cf53 33 = .ok (.iload_n 1, 1) := by decide +kernel
theorem dJ8_hugeLength_7cf53_34 : decode cJ8_hugeLength_7cf53 34 = .ok (.invokevirtual 98, 3) := by decide +kernel
theorem dJ8_hugeLength_7cf53_37 : decode cJ8_hugeLength_7cf53 37 = .ok (.ldc 210, 2) := by decide +kernel
theorem dJ8_hugeLength_7cf53_39 : decode cJ8_hugeLength_7cf53 39 = .ok (.invokevirtual 94, 3) := by decide +kernel
theorem dJ8_hugeLength_7cf53_42 : decode cJ8_hugeLength_7cf53 42 = .ok (.invokevirtual 101, 3) := by decide +kernel
theorem dJ8_hugeLength_7cf53_45 : decode cJ8_hugeLength_7cf53 45 = .ok (.invokespecial 212, 3) := by decide +kernel
theorem dJ8_hugeLength_7cf53_48 : decode cJ8_hugeLength_7cf53 48 = .ok (.athrow, 1) := by decide +kernel
theorem dJ8_hugeLength_7cf53_49 : decode cJ8_hugeLength_7cf53 49 = .ok (.iload_n 2, 1) := by decide +kernel
theorem dJ8_hugeLength_7cf53_50 : decode cJ8_hugeLength_7cf53 50 = .ok (.ldc 200, 2) := by decide +kernel
theorem dJ8_hugeLength_7cf53_52 : decode cJ8_hugeLength_7cf53 52 = .ok (.if_icmp .gt 6, 3) := by decide +kernel
theorem dJ8_hugeLength_7cf53_55 : decode cJ8_hugeLength_7cf53 55 = .ok (.ldc 200, 2) := by decide +kernel
theorem dJ8_hugeLength_7cf53_57 : decode cJ8_hugeLength_7cf53 57 = .ok (.ireturn, 1) := by decide +kernel
theorem dJ8_hugeLength_7cf53_58 : decode cJ8_hugeLength_7cf53 58 = .ok (.iload_n 2, 1) := by decide +kernel
theorem dJ8_hugeLength_7cf53_59 : decode cJ8_hugeLength_7cf53 59 = .ok (.ireturn, 1) := by decide +kernel
theorem dJ3_checkIndex_8e157_0 : decode cJ3_checkIndex_8e157 0 = .ok (.iload_n 0, 1) := by decide +kernel
theorem dJ3_checkIndex_8e157_1 : decode cJ3_checkIndex_8e157 1 = .ok (.ifCond .lt 8, 3) := by decide +kernel
theorem dJ3_checkIndex_8e157_4 : decode cJ3_checkIndex_8e157 4 = .ok (.iload_n 0, 1) := by decide +kernel
theorem dJ3_checkIndex_8e157_5 : decode cJ3_checkIndex_8e157 5 = .ok (.iload_n 1, 1) := by decide +kernel
theorem dJ3_checkIndex_8e157_6 : decode cJ3_checkIndex_8e157 6 = .ok (.if_icmp .lt 10, 3) := by decide +kernel
theorem dJ3_checkIndex_8e157_9 : decode cJ3_checkIndex_8e157 9 = .ok (.aload_n 2, 1) := by decide +kernel
theorem dJ3_checkIndex_8e157_10 : decode cJ3_checkIndex_8e157 10 = .ok (.iload_n 0, 1) := by decide +kernel
theorem dJ3_checkIndex_8e157_11 : decode cJ3_checkIndex_8e157 11 = .ok (.iload_n 1, 1) := by decide +kernel
theorem dJ3_checkIndex_8e157_12 : decode cJ3_checkIndex_8e157 12 = .ok (.invokestatic 95, 3) := by decide +kernel
theorem dJ3_checkIndex_8e157_15 : decode cJ3_checkIndex_8e157 15 = .ok (.athrow, 1) := by decide +kernel
theorem dJ3_checkIndex_8e157_16 : decode cJ3_checkIndex_8e157 16 = .ok (.iload_n 0, 1) := by decide +kernel
theorem dJ3_checkIndex_8e157_17 : decode cJ3_checkIndex_8e157 17 = .ok (.ireturn, 1) := by decide +kernel
theorem dL_cell_0 : decode cL_cell 0 = .ok (.iload_n 1, 1) := by decide +kernel
theorem dL_cell_1 : decode cL_cell 1 = .ok (.aload_n 0, 1) := by decide +kernel
theorem dL_cell_2 : decode cL_cell 2 = .ok (.arraylength, 1) := by decide +kernel
theorem dL_cell_3 : decode cL_cell 3 = .ok (.if_icmp .ge 9, 3) := by decide +kernel
theorem dL_cell_6 : decode cL_cell 6 = .ok (.aload_n 0, 1) := by decide +kernel
theorem dL_cell_7 : decode cL_cell 7 = .ok (.iload_n 1, 1) := by decide +kernel
theorem dL_cell_8 : decode cL_cell 8 = .ok (.iaload, 1) := by decide +kernel
theorem dL_cell_9 : decode cL_cell 9 = .ok (.goto 12, 3) := by decide +kernel
theorem dL_cell_12 : decode cL_cell 12 = .ok (.ldc 7, 2) := by decide +kernel
theorem dL_cell_14 : decode cL_cell 14 = .ok (.iload_n 1, 1) := by decide +kernel
theorem dL_cell_15 : decode cL_cell 15 = .ok (.iconst 1, 1) := by decide +kernel
theorem dL_cell_16 : decode cL_cell 16 = .ok (.iadd, 1) := by decide +kernel
theorem dL_cell_17 : decode cL_cell 17 = .ok (.imul, 1) := by decide +kernel
theorem dL_cell_18 : decode cL_cell 18 = .ok (.ldc 8, 2) := by decide +kernel
theorem dL_cell_20 : decode cL_cell 20 = .ok (.iadd, 1) := by decide +kernel
theorem dL_cell_21 : decode cL_cell 21 = .ok (.ireturn, 1) := by decide +kernel
theorem dL_low_0 : decode cL_low 0 = .ok (.iload_n 0, 1) := by decide +kernel
theorem dL_low_1 : decode cL_low 1 = .ok (.ldc 9, 2) := by decide +kernel
theorem dL_low_3 : decode cL_low 3 = .ok (.iand, 1) := by decide +kernel
theorem dL_low_4 : decode cL_low 4 = .ok (.iload_n 1, 1) := by decide +kernel
theorem dL_low_5 : decode cL_low 5 = .ok (.irem, 1) := by decide +kernel
theorem dL_low_6 : decode cL_low 6 = .ok (.ireturn, 1) := by decide +kernel
theorem dL_code_0 : decode cL_code 0 = .ok (.iload_n 0, 1) := by decide +kernel
theorem dL_code_1 : decode cL_code 1 = .ok (.bipush 27, 2) := by decide +kernel
theorem dL_code_3 : decode cL_code 3 = .ok (.if_icmp .ne 8, 3) := by decide +kernel
theorem dL_code_6 : decode cL_code 6 = .ok (.bipush 32, 2) := by decide +kernel
theorem dL_code_8 : decode cL_code 8 = .ok (.goto 18, 3) := by decide +kernel
theorem dL_code_11 : decode cL_code 11 = .ok (.iload_n 0, 1) := by decide +kernel
theorem dL_code_12 : decode cL_code 12 = .ok (.bipush 28, 2) := by decide +kernel
theorem dL_code_14 : decode cL_code 14 = .ok (.if_icmp .ne 8, 3) := by decide +kernel
theorem dL_code_17 : decode cL_code 17 = .ok (.bipush 48, 2) := by decide +kernel
theorem dL_code_19 : decode cL_code 19 = .ok (.goto 7, 3) := by decide +kernel
theorem dL_code_22 : decode cL_code 22 = .ok (.bipush 96, 2) := by decide +kernel
theorem dL_code_24 : decode cL_code 24 = .ok (.iload_n 0, 1) := by decide +kernel
theorem dL_code_25 : decode cL_code 25 = .ok (.iadd, 1) := by decide +kernel
theorem dL_code_26 : decode cL_code 26 = .ok (.ireturn, 1) := by decide +kernel
theorem dL_at_0 : decode cL_at 0 = .ok (.lload_n 0, 1) := by decide +kernel
theorem dL_at_1 : decode cL_at 1 = .ok (.iconst 5, 1) := by decide +kernel
theorem dL_at_2 : decode cL_at 2 = .ok (.iload_n 2, 1) := by decide +kernel
theorem dL_at_3 : decode cL_at 3 = .ok (.imul, 1) := by decide +kernel
theorem dL_at_4 : decode cL_at 4 = .ok (.lshr, 1) := by decide +kernel
theorem dL_at_5 : decode cL_at 5 = .ok (.ldc2_w 10, 3) := by decide +kernel
theorem dL_at_8 : decode cL_at 8 = .ok (.land, 1) := by decide +kernel
theorem dL_at_9 : decode cL_at 9 = .ok (.l2i, 1) := by decide +kernel
theorem dL_at_10 : decode cL_at 10 = .ok (.ireturn, 1) := by decide +kernel
theorem dL_size_0 : decode cL_size 0 = .ok (.iconst 0, 1) := by decide +kernel
theorem dL_size_1 : decode cL_size 1 = .ok (.istore_n 2, 1) := by decide +kernel
theorem dL_size_2 : decode cL_size 2 = .ok (.iload_n 2, 1) := by decide +kernel
theorem dL_size_3 : decode cL_size 3 = .ok (.bipush 12, 2) := by decide +kernel
theorem dL_size_5 : decode cL_size 5 = .ok (.if_icmp .ge 17, 3) := by decide +kernel
theorem dL_size_8 : decode cL_size 8 = .ok (.lload_n 0, 1) := by decide +kernel
theorem dL_size_9 : decode cL_size 9 = .ok (.iload_n 2, 1) := by decide +kernel
theorem dL_size_10 : decode cL_size 10 = .ok (.invokestatic 12, 3) := by decide +kernel
theorem dL_size_13 : decode cL_size 13 = .ok (.ifCond .eq 9, 3) := by decide +kernel
theorem dL_size_16 : decode cL_size 16 = .ok (.iinc 2 1, 3) := by decide +kernel
theorem dL_size_19 : decode cL_size 19 = .ok (.goto (-17), 3) := by decide +kernel
theorem dL_size_22 : decode cL_size 22 = .ok (.iload_n 2, 1) := by decide +kernel
theorem dL_size_23 : decode cL_size 23 = .ok (.ireturn, 1) := by decide +kernel
theorem dL_from_0 : decode cL_from 0 = .ok (.iload_n 2, 1) := by decide +kernel
theorem dL_from_1 : decode cL_from 1 = .ok (.iconst 3, 1) := by decide +kernel
theorem dL_from_2 : decode cL_from 2 = .ok (.if_icmp .ge 5, 3) := by decide +kernel
theorem dL_from_5 : decode cL_from 5 = .ok (.lload_n 0, 1) := by decide +kernel
theorem dL_from_6 : decode cL_from 6 = .ok (.lreturn, 1) := by decide +kernel
theorem dL_from_7 : decode cL_from 7 = .ok (.lconst 0, 1) := by decide +kernel
theorem dL_from_8 : decode cL_from 8 = .ok (.lstore_n 3, 1) := by decide +kernel
theorem dL_from_9 : decode cL_from 9 = .ok (.iconst 0, 1) := by decide +kernel
theorem dL_from_10 : decode cL_from 10 = .ok (.istore 5, 2) := by decide +kernel
theorem dL_from_12 : decode cL_from 12 = .ok (.iconst 0, 1) := by decide +kernel
theorem dL_from_13 : decode cL_from 13 = .ok (.istore 6, 2) := by decide +kernel
theorem dL_from_15 : decode cL_from 15 = .ok (.iload 6, 2) := by decide +kernel
theorem dL_from_17 : decode cL_from 17 = .ok (.lload_n 0, 1) := by decide +kernel
theorem dL_from_18 : decode cL_from 18 = .ok (.invokestatic 18, 3) := by decide +kernel
theorem dL_from_21 : decode cL_from 21 = .ok (.if_icmp .ge 59, 3) := by decide +kernel
theorem dL_from_24 : decode cL_from 24 = .ok (.lload_n 0, 1) := by decide +kernel
theorem dL_from_25 : decode cL_from 25 = .ok (.iload 6, 2) := by decide +kernel
theorem dL_from_27 : decode cL_from 27 = .ok (.invokestatic 12, 3) := by decide +kernel
theorem dL_from_30 : decode cL_from 30 = .ok (.bipush 27, 2) := by decide +kernel
theorem dL_from_32 : decode cL_from 32 = .ok (.if_icmp .eq 42, 3) := by decide +kernel
theorem dL_from_35 : decode cL_from 35 = .ok (.iload 6, 2) := by decide +kernel
theorem dL_from_37 : decode cL_from 37 = .ok (.ifCond .le 19, 3) := by decide +kernel
theorem dL_from_40 : decode cL_from 40 = .ok (.lload_n 0, 1) := by decide +kernel
theorem dL_from_41 : decode cL_from 41 = .ok (.iload 6, 2) := by decide +kernel
theorem dL_from_43 : decode cL_from 43 = .ok (.iconst 1, 1) := by decide +kernel
theorem dL_from_44 : decode cL_from 44 = .ok (.isub, 1) := by decide +kernel
theorem dL_from_45 : decode cL_from 45 = .ok (.invokestatic 12, 3) := by decide +kernel
theorem dL_from_48 : decode cL_from 48 = .ok (.bipush 27, 2) := by decide +kernel
theorem dL_from_50 : decode cL_from 50 = .ok (.if_icmp .eq 6, 3) := by decide +kernel
theorem dL_from_53 : decode cL_from 53 = .ok (.goto 21, 3) := by decide +kernel
theorem dL_from_56 : decode cL_from 56 = .ok (.lload_n 3, 1) := by decide +kernel
theorem dL_from_57 : decode cL_from 57 = .ok (.lload_n 0, 1) := by decide +kernel
theorem dL_from_58 : decode cL_from 58 = .ok (.iload 6, 2) := by decide +kernel
theorem dL_from_60 : decode cL_from 60 = .ok (.invokestatic 12, 3) := by decide +kernel
theorem dL_from_63 : decode cL_from 63 = .ok (.i2l, 1) := by decide +kernel
theorem dL_from_64 : decode cL_from 64 = .ok (.iconst 5, 1) := by decide +kernel
theorem dL_from_65 : decode cL_from 65 = .ok (.iload 5, 2) := by decide +kernel
theorem dL_from_67 : decode cL_from 67 = .ok (.imul, 1) := by decide +kernel
theorem dL_from_68 : decode cL_from 68 = .ok (.lshl, 1) := by decide +kernel
theorem dL_from_69 : decode cL_from 69 = .ok (.lor, 1) := by decide +kernel
theorem dL_from_70 : decode cL_from 70 = .ok (.lstore_n 3, 1) := by decide +kernel
theorem dL_from_71 : decode cL_from 71 = .ok (.iinc 5 1, 3) := by decide +kernel
theorem dL_from_74 : decode cL_from 74 = .ok (.iinc 6 1, 3) := by decide +kernel
theorem dL_from_77 : decode cL_from 77 = .ok (.goto (-62), 3) := by decide +kernel
theorem dL_from_80 : decode cL_from 80 = .ok (.lload_n 3, 1) := by decide +kernel
theorem dL_from_81 : decode cL_from 81 = .ok (.lreturn, 1) := by decide +kernel
theorem dL_piece_0 : decode cL_piece 0 = .ok (.iload_n 2, 1) := by decide +kernel
theorem dL_piece_1 : decode cL_piece 1 = .ok (.iload_n 3, 1) := by decide +kernel
theorem dL_piece_2 : decode cL_piece 2 = .ok (.iadd, 1) := by decide +kernel
theorem dL_piece_3 : decode cL_piece 3 = .ok (.lload_n 0, 1) := by decide +kernel
theorem dL_piece_4 : decode cL_piece 4 = .ok (.invokestatic 18, 3) := by decide +kernel
theorem dL_piece_7 : decode cL_piece 7 = .ok (.if_icmp .gt 59, 3) := by decide +kernel
theorem dL_piece_10 : decode cL_piece 10 = .ok (.lload_n 0, 1) := by decide +kernel
theorem dL_piece_11 : decode cL_piece 11 = .ok (.iload_n 2, 1) := by decide +kernel
theorem dL_piece_12 : decode cL_piece 12 = .ok (.invokestatic 12, 3) := by decide +kernel
theorem dL_piece_15 : decode cL_piece 15 = .ok (.bipush 27, 2) := by decide +kernel
theorem dL_piece_17 : decode cL_piece 17 = .ok (.if_icmp .eq 49, 3) := by decide +kernel
theorem dL_piece_20 : decode cL_piece 20 = .ok (.lload_n 0, 1) := by decide +kernel
theorem dL_piece_21 : decode cL_piece 21 = .ok (.iload_n 2, 1) := by decide +kernel
theorem dL_piece_22 : decode cL_piece 22 = .ok (.iload_n 3, 1) := by decide +kernel
theorem dL_piece_23 : decode cL_piece 23 = .ok (.iadd, 1) := by decide +kernel
theorem dL_piece_24 : decode cL_piece 24 = .ok (.iconst 1, 1) := by decide +kernel
theorem dL_piece_25 : decode cL_piece 25 = .ok (.isub, 1) := by decide +kernel
theorem dL_piece_26 : decode cL_piece 26 = .ok (.invokestatic 12, 3) := by decide +kernel
theorem dL_piece_29 : decode cL_piece 29 = .ok (.bipush 27, 2) := by decide +kernel
theorem dL_piece_31 : decode cL_piece 31 = .ok (.if_icmp .eq 35, 3) := by decide +kernel
theorem dL_piece_34 : decode cL_piece 34 = .ok (.iload 4, 2) := by decide +kernel
theorem dL_piece_36 : decode cL_piece 36 = .ok (.iconst 1, 1) := by decide +kernel
theorem dL_piece_37 : decode cL_piece 37 = .ok (.if_icmp .ne 7, 3) := by decide +kernel
theorem dL_piece_40 : decode cL_piece 40 = .ok (.iload_n 2, 1) := by decide +kernel
theorem dL_piece_41 : decode cL_piece 41 = .ok (.ifCond .gt 25, 3) := by decide +kernel
theorem dL_piece_44 : decode cL_piece 44 = .ok (.iload 4, 2) := by decide +kernel
theorem dL_piece_46 : decode cL_piece 46 = .ok (.iconst 2, 1) := by decide +kernel
theorem dL_piece_47 : decode cL_piece 47 = .ok (.if_icmp .ne 21, 3) := by decide +kernel
theorem dL_piece_50 : decode cL_piece 50 = .ok (.iload_n 2, 1) := by decide +kernel
theorem dL_piece_51 : decode cL_piece 51 = .ok (.ifCond .le 17, 3) := by decide +kernel
theorem dL_piece_54 : decode cL_piece 54 = .ok (.lload_n 0, 1) := by decide +kernel
theorem dL_piece_55 : decode cL_piece 55 = .ok (.iload_n 2, 1) := by decide +kernel
theorem dL_piece_56 : decode cL_piece 56 = .ok (.iconst 1, 1) := by decide +kernel
theorem dL_piece_57 : decode cL_piece 57 = .ok (.isub, 1) := by decide +kernel
theorem dL_piece_58 : decode cL_piece 58 = .ok (.invokestatic 12, 3) := by decide +kernel
theorem dL_piece_61 : decode cL_piece 61 = .ok (.bipush 27, 2) := by decide +kernel
theorem dL_piece_63 : decode cL_piece 63 = .ok (.if_icmp .eq 5, 3) := by decide +kernel
theorem dL_piece_66 : decode cL_piece 66 = .ok (.lconst 0, 1) := by decide +kernel
theorem dL_piece_67 : decode cL_piece 67 = .ok (.lreturn, 1) := by decide +kernel
theorem dL_piece_68 : decode cL_piece 68 = .ok (.lload_n 0, 1) := by decide +kernel
theorem dL_piece_69 : decode cL_piece 69 = .ok (.iconst 5, 1) := by decide +kernel
theorem dL_piece_70 : decode cL_piece 70 = .ok (.iload_n 2, 1) := by decide +kernel
theorem dL_piece_71 : decode cL_piece 71 = .ok (.imul, 1) := by decide +kernel
theorem dL_piece_72 : decode cL_piece 72 = .ok (.lshr, 1) := by decide +kernel
theorem dL_piece_73 : decode cL_piece 73 = .ok (.lconst 1, 1) := by decide +kernel
theorem dL_piece_74 : decode cL_piece 74 = .ok (.iconst 5, 1) := by decide +kernel
theorem dL_piece_75 : decode cL_piece 75 = .ok (.iload_n 3, 1) := by decide +kernel
theorem dL_piece_76 : decode cL_piece 76 = .ok (.imul, 1) := by decide +kernel
theorem dL_piece_77 : decode cL_piece 77 = .ok (.lshl, 1) := by decide +kernel
theorem dL_piece_78 : decode cL_piece 78 = .ok (.lconst 1, 1) := by decide +kernel
theorem dL_piece_79 : decode cL_piece 79 = .ok (.lsub, 1) := by decide +kernel
theorem dL_piece_80 : decode cL_piece 80 = .ok (.land, 1) := by decide +kernel
theorem dL_piece_81 : decode cL_piece 81 = .ok (.lreturn, 1) := by decide +kernel
theorem dL_place_0 : decode cL_place 0 = .ok (.lload_n 2, 1) := by decide +kernel
theorem dL_place_1 : decode cL_place 1 = .ok (.lconst 0, 1) := by decide +kernel
theorem dL_place_2 : decode cL_place 2 = .ok (.lcmp, 1) := by decide +kernel
theorem dL_place_3 : decode cL_place 3 = .ok (.ifCond .ne 5, 3) := by decide +kernel
theorem dL_place_6 : decode cL_place 6 = .ok (.iconst 0, 1) := by decide +kernel
theorem dL_place_7 : decode cL_place 7 = .ok (.ireturn, 1) := by decide +kernel
theorem dL_place_8 : decode cL_place 8 = .ok (.lload_n 0, 1) := by decide +kernel
theorem dL_place_9 : decode cL_place 9 = .ok (.iload 4, 2) := by decide +kernel
theorem dL_place_11 : decode cL_place 11 = .ok (.invokestatic 22, 3) := by decide +kernel
theorem dL_place_14 : decode cL_place 14 = .ok (.lstore 5, 2) := by decide +kernel
theorem dL_place_16 : decode cL_place 16 = .ok (.iconst 0, 1) := by decide +kernel
theorem dL_place_17 : decode cL_place 17 = .ok (.istore 7, 2) := by decide +kernel
theorem dL_place_19 : decode cL_place 19 = .ok (.iload 7, 2) := by decide +kernel
theorem dL_place_21 : decode cL_place 21 = .ok (.lload 5, 2) := by decide +kernel
theorem dL_place_23 : decode cL_place 23 = .ok (.invokestatic 18, 3) := by decide +kernel
theorem dL_place_26 : decode cL_place 26 = .ok (.if_icmp .ge 30, 3) := by decide +kernel
theorem dL_place_29 : decode cL_place 29 = .ok (.lload 5, 2) := by decide +kernel
theorem dL_place_31 : decode cL_place 31 = .ok (.iload 7, 2) := by decide +kernel
theorem dL_place_33 : decode cL_place 33 = .ok (.lload_n 2, 1) := by decide +kernel
theorem dL_place_34 : decode cL_place 34 = .ok (.invokestatic 18, 3) := by decide +kernel
theorem dL_place_37 : decode cL_place 37 = .ok (.iload 4, 2) := by decide +kernel
theorem dL_place_39 : decode cL_place 39 = .ok (.invokestatic 26, 3) := by decide +kernel
theorem dL_place_42 : decode cL_place 42 = .ok (.lload_n 2, 1) := by decide +kernel
theorem dL_place_43 : decode cL_place 43 = .ok (.lcmp, 1) := by decide +kernel
theorem dL_place_44 : decode cL_place 44 = .ok (.ifCond .ne 6, 3) := by decide +kernel
theorem dL_place_47 : decode cL_place 47 = .ok (.iload 7, 2) := by decide +kernel
theorem dL_place_49 : decode cL_place 49 = .ok (.ireturn, 1) := by decide +kernel
theorem dL_place_50 : decode cL_place 50 = .ok (.iinc 7 1, 3) := by decide +kernel
theorem dL_place_53 : decode cL_place 53 = .ok (.goto (-34), 3) := by decide +kernel
theorem dL_place_56 : decode cL_place 56 = .ok (.iconst (-1), 1) := by decide +kernel
theorem dL_place_57 : decode cL_place 57 = .ok (.ireturn, 1) := by decide +kernel
theorem dL_named_0 : decode cL_named 0 = .ok (.iconst 0, 1) := by decide +kernel
theorem dL_named_1 : decode cL_named 1 = .ok (.istore 4, 2) := by decide +kernel
theorem dL_named_3 : decode cL_named 3 = .ok (.lload_n 0, 1) := by decide +kernel
theorem dL_named_4 : decode cL_named 4 = .ok (.iload 4, 2) := by decide +kernel
theorem dL_named_6 : decode cL_named 6 = .ok (.invokestatic 12, 3) := by decide +kernel
theorem dL_named_9 : decode cL_named 9 = .ok (.lload_n 2, 1) := by decide +kernel
theorem dL_named_10 : decode cL_named 10 = .ok (.iload 4, 2) := by decide +kernel
theorem dL_named_12 : decode cL_named 12 = .ok (.invokestatic 12, 3) := by decide +kernel
theorem dL_named_15 : decode cL_named 15 = .ok (.if_icmp .ne 18, 3) := by decide +kernel
theorem dL_named_18 : decode cL_named 18 = .ok (.lload_n 0, 1) := by decide +kernel
theorem dL_named_19 : decode cL_named 19 = .ok (.iload 4, 2) := by decide +kernel
theorem dL_named_21 : decode cL_named 21 = .ok (.invokestatic 12, 3) := by decide +kernel
theorem dL_named_24 : decode cL_named 24 = .ok (.ifCond .eq 9, 3) := by decide +kernel
theorem dL_named_27 : decode cL_named 27 = .ok (.iinc 4 1, 3) := by decide +kernel
theorem dL_named_30 : decode cL_named 30 = .ok (.goto (-27), 3) := by decide +kernel
theorem dL_named_33 : decode cL_named 33 = .ok (.lload_n 0, 1) := by decide +kernel
theorem dL_named_34 : decode cL_named 34 = .ok (.iload 4, 2) := by decide +kernel
theorem dL_named_36 : decode cL_named 36 = .ok (.invokestatic 12, 3) := by decide +kernel
theorem dL_named_39 : decode cL_named 39 = .ok (.ifCond .eq 12, 3) := by decide +kernel
theorem dL_named_42 : decode cL_named 42 = .ok (.lload_n 2, 1) := by decide +kernel
theorem dL_named_43 : decode cL_named 43 = .ok (.iload 4, 2) := by decide +kernel
theorem dL_named_45 : decode cL_named 45 = .ok (.invokestatic 12, 3) := by decide +kernel
theorem dL_named_48 : decode cL_named 48 = .ok (.ifCond .ne 18, 3) := by decide +kernel
theorem dL_named_51 : decode cL_named 51 = .ok (.lload_n 0, 1) := by decide +kernel
theorem dL_named_52 : decode cL_named 52 = .ok (.iload 4, 2) := by decide +kernel
theorem dL_named_54 : decode cL_named 54 = .ok (.invokestatic 12, 3) := by decide +kernel
theorem dL_named_57 : decode cL_named 57 = .ok (.ifCond .ne 7, 3) := by decide +kernel
theorem dL_named_60 : decode cL_named 60 = .ok (.iconst 1, 1) := by decide +kernel
theorem dL_named_61 : decode cL_named 61 = .ok (.goto 4, 3) := by decide +kernel
theorem dL_named_64 : decode cL_named 64 = .ok (.iconst 0, 1) := by decide +kernel
theorem dL_named_65 : decode cL_named 65 = .ok (.ireturn, 1) := by decide +kernel
theorem dL_named_66 : decode cL_named 66 = .ok (.lload_n 0, 1) := by decide +kernel
theorem dL_named_67 : decode cL_named 67 = .ok (.iload 4, 2) := by decide +kernel
theorem dL_named_69 : decode cL_named 69 = .ok (.invokestatic 12, 3) := by decide +kernel
theorem dL_named_72 : decode cL_named 72 = .ok (.invokestatic 30, 3) := by decide +kernel
theorem dL_named_75 : decode cL_named 75 = .ok (.lload_n 2, 1) := by decide +kernel
theorem dL_named_76 : decode cL_named 76 = .ok (.iload 4, 2) := by decide +kernel
theorem dL_named_78 : decode cL_named 78 = .ok (.invokestatic 12, 3) := by decide +kernel
theorem dL_named_81 : decode cL_named 81 = .ok (.invokestatic 30, 3) := by decide +kernel
theorem dL_named_84 : decode cL_named 84 = .ok (.if_icmp .ge 7, 3) := by decide +kernel
theorem dL_named_87 : decode cL_named 87 = .ok (.iconst 1, 1) := by decide +kernel
theorem dL_named_88 : decode cL_named 88 = .ok (.goto 4, 3) := by decide +kernel
theorem dL_named_91 : decode cL_named 91 = .ok (.iconst 0, 1) := by decide +kernel
theorem dL_named_92 : decode cL_named 92 = .ok (.ireturn, 1) := by decide +kernel
theorem dL_ahead_0 : decode cL_ahead 0 = .ok (.aload 4, 2) := by decide +kernel
theorem dL_ahead_2 : decode cL_ahead 2 = .ok (.iconst 2, 1) := by decide +kernel
theorem dL_ahead_3 : decode cL_ahead 3 = .ok (.iaload, 1) := by decide +kernel
theorem dL_ahead_4 : decode cL_ahead 4 = .ok (.iconst 2, 1) := by decide +kernel
theorem dL_ahead_5 : decode cL_ahead 5 = .ok (.if_icmp .ne 15, 3) := by decide +kernel
theorem dL_ahead_8 : decode cL_ahead 8 = .ok (.aload 5, 2) := by decide +kernel
theorem dL_ahead_10 : decode cL_ahead 10 = .ok (.iload_n 0, 1) := by decide +kernel
theorem dL_ahead_11 : decode cL_ahead 11 = .ok (.laload, 1) := by decide +kernel
theorem dL_ahead_12 : decode cL_ahead 12 = .ok (.aload 5, 2) := by decide +kernel
theorem dL_ahead_14 : decode cL_ahead 14 = .ok (.iload_n 1, 1) := by decide +kernel
theorem dL_ahead_15 : decode cL_ahead 15 = .ok (.laload, 1) := by decide +kernel
theorem dL_ahead_16 : decode cL_ahead 16 = .ok (.invokestatic 34, 3) := by decide +kernel
theorem dL_ahead_19 : decode cL_ahead 19 = .ok (.ireturn, 1) := by decide +kernel
theorem dL_ahead_20 : decode cL_ahead 20 = .ok (.aload 4, 2) := by decide +kernel
theorem dL_ahead_22 : decode cL_ahead 22 = .ok (.iconst 2, 1) := by decide +kernel
theorem dL_ahead_23 : decode cL_ahead 23 = .ok (.iaload, 1) := by decide +kernel
theorem dL_ahead_24 : decode cL_ahead 24 = .ok (.iconst 1, 1) := by decide +kernel
theorem dL_ahead_25 : decode cL_ahead 25 = .ok (.if_icmp .ne 39, 3) := by decide +kernel
theorem dL_ahead_28 : decode cL_ahead 28 = .ok (.aload 4, 2) := by decide +kernel
theorem dL_ahead_30 : decode cL_ahead 30 = .ok (.iconst 3, 1) := by decide +kernel
theorem dL_ahead_31 : decode cL_ahead 31 = .ok (.iload_n 0, 1) := by decide +kernel
theorem dL_ahead_32 : decode cL_ahead 32 = .ok (.iadd, 1) := by decide +kernel
theorem dL_ahead_33 : decode cL_ahead 33 = .ok (.iaload, 1) := by decide +kernel
theorem dL_ahead_34 : decode cL_ahead 34 = .ok (.aload 4, 2) := by decide +kernel
theorem dL_ahead_36 : decode cL_ahead 36 = .ok (.iconst 3, 1) := by decide +kernel
theorem dL_ahead_37 : decode cL_ahead 37 = .ok (.iload_n 1, 1) := by decide +kernel
theorem dL_ahead_38 : decode cL_ahead 38 = .ok (.iadd, 1) := by decide +kernel
theorem dL_ahead_39 : decode cL_ahead 39 = .ok (.iaload, 1) := by decide +kernel
theorem dL_ahead_40 : decode cL_ahead 40 = .ok (.if_icmp .eq 24, 3) := by decide +kernel
theorem dL_ahead_43 : decode cL_ahead 43 = .ok (.aload 4, 2) := by decide +kernel
theorem dL_ahead_45 : decode cL_ahead 45 = .ok (.iconst 3, 1) := by decide +kernel
theorem dL_ahead_46 : decode cL_ahead 46 = .ok (.iload_n 0, 1) := by decide +kernel
theorem dL_ahead_47 : decode cL_ahead 47 = .ok (.iadd, 1) := by decide +kernel
theorem dL_ahead_48 : decode cL_ahead 48 = .ok (.iaload, 1) := by decide +kernel
theorem dL_ahead_49 : decode cL_ahead 49 = .ok (.aload 4, 2) := by decide +kernel
theorem dL_ahead_51 : decode cL_ahead 51 = .ok (.iconst 3, 1) := by decide +kernel
theorem dL_ahead_52 : decode cL_ahead 52 = .ok (.iload_n 1, 1) := by decide +kernel
theorem dL_ahead_53 : decode cL_ahead 53 = .ok (.iadd, 1) := by decide +kernel
theorem dL_ahead_54 : decode cL_ahead 54 = .ok (.iaload, 1) := by decide +kernel
theorem dL_ahead_55 : decode cL_ahead 55 = .ok (.if_icmp .le 7, 3) := by decide +kernel
theorem dL_ahead_58 : decode cL_ahead 58 = .ok (.iconst 1, 1) := by decide +kernel
theorem dL_ahead_59 : decode cL_ahead 59 = .ok (.goto 4, 3) := by decide +kernel
theorem dL_ahead_62 : decode cL_ahead 62 = .ok (.iconst 0, 1) := by decide +kernel
theorem dL_ahead_63 : decode cL_ahead 63 = .ok (.ireturn, 1) := by decide +kernel
theorem dL_ahead_64 : decode cL_ahead 64 = .ok (.aload 5, 2) := by decide +kernel
theorem dL_ahead_66 : decode cL_ahead 66 = .ok (.iload_n 0, 1) := by decide +kernel
theorem dL_ahead_67 : decode cL_ahead 67 = .ok (.laload, 1) := by decide +kernel
theorem dL_ahead_68 : decode cL_ahead 68 = .ok (.lload_n 2, 1) := by decide +kernel
theorem dL_ahead_69 : decode cL_ahead 69 = .ok (.aload 4, 2) := by decide +kernel
theorem dL_ahead_71 : decode cL_ahead 71 = .ok (.iconst 1, 1) := by decide +kernel
theorem dL_ahead_72 : decode cL_ahead 72 = .ok (.iaload, 1) := by decide +kernel
theorem dL_ahead_73 : decode cL_ahead 73 = .ok (.invokestatic 38, 3) := by decide +kernel
theorem dL_ahead_76 : decode cL_ahead 76 = .ok (.istore 6, 2) := by decide +kernel
theorem dL_ahead_78 : decode cL_ahead 78 = .ok (.aload 5, 2) := by decide +kernel
theorem dL_ahead_80 : decode cL_ahead 80 = .ok (.iload_n 1, 1) := by decide +kernel
theorem dL_ahead_81 : decode cL_ahead 81 = .ok (.laload, 1) := by decide +kernel
theorem dL_ahead_82 : decode cL_ahead 82 = .ok (.lload_n 2, 1) := by decide +kernel
theorem dL_ahead_83 : decode cL_ahead 83 = .ok (.aload 4, 2) := by decide +kernel
theorem dL_ahead_85 : decode cL_ahead 85 = .ok (.iconst 1, 1) := by decide +kernel
theorem dL_ahead_86 : decode cL_ahead 86 = .ok (.iaload, 1) := by decide +kernel
theorem dL_ahead_87 : decode cL_ahead 87 = .ok (.invokestatic 38, 3) := by decide +kernel
theorem dL_ahead_90 : decode cL_ahead 90 = .ok (.istore 7, 2) := by decide +kernel
theorem dL_ahead_92 : decode cL_ahead 92 = .ok (.iload 6, 2) := by decide +kernel
theorem dL_ahead_94 : decode cL_ahead 94 = .ok (.iload 7, 2) := by decide +kernel
theorem dL_ahead_96 : decode cL_ahead 96 = .ok (.if_icmp .eq 16, 3) := by decide +kernel
theorem dL_ahead_99 : decode cL_ahead 99 = .ok (.iload 6, 2) := by decide +kernel
theorem dL_ahead_101 : decode cL_ahead 101 = .ok (.iload 7, 2) := by decide +kernel
theorem dL_ahead_103 : decode cL_ahead 103 = .ok (.if_icmp .ge 7, 3) := by decide +kernel
theorem dL_ahead_106 : decode cL_ahead 106 = .ok (.iconst 1, 1) := by decide +kernel
theorem dL_ahead_107 : decode cL_ahead 107 = .ok (.goto 4, 3) := by decide +kernel
theorem dL_ahead_110 : decode cL_ahead 110 = .ok (.iconst 0, 1) := by decide +kernel
theorem dL_ahead_111 : decode cL_ahead 111 = .ok (.ireturn, 1) := by decide +kernel
theorem dL_ahead_112 : decode cL_ahead 112 = .ok (.aload 5, 2) := by decide +kernel
theorem dL_ahead_114 : decode cL_ahead 114 = .ok (.iload_n 0, 1) := by decide +kernel
theorem dL_ahead_115 : decode cL_ahead 115 = .ok (.laload, 1) := by decide +kernel
theorem dL_ahead_116 : decode cL_ahead 116 = .ok (.invokestatic 18, 3) := by decide +kernel
theorem dL_ahead_119 : decode cL_ahead 119 = .ok (.aload 5, 2) := by decide +kernel
theorem dL_ahead_121 : decode cL_ahead 121 = .ok (.iload_n 1, 1) := by decide +kernel
theorem dL_ahead_122 : decode cL_ahead 122 = .ok (.laload, 1) := by decide +kernel
theorem dL_ahead_123 : decode cL_ahead 123 = .ok (.invokestatic 18, 3) := by decide +kernel
theorem dL_ahead_126 : decode cL_ahead 126 = .ok (.if_icmp .eq 28, 3) := by decide +kernel
theorem dL_ahead_129 : decode cL_ahead 129 = .ok (.aload 5, 2) := by decide +kernel
theorem dL_ahead_131 : decode cL_ahead 131 = .ok (.iload_n 0, 1) := by decide +kernel
theorem dL_ahead_132 : decode cL_ahead 132 = .ok (.laload, 1) := by decide +kernel
theorem dL_ahead_133 : decode cL_ahead 133 = .ok (.invokestatic 18, 3) := by decide +kernel
theorem dL_ahead_136 : decode cL_ahead 136 = .ok (.aload 5, 2) := by decide +kernel
theorem dL_ahead_138 : decode cL_ahead 138 = .ok (.iload_n 1, 1) := by decide +kernel
theorem dL_ahead_139 : decode cL_ahead 139 = .ok (.laload, 1) := by decide +kernel
theorem dL_ahead_140 : decode cL_ahead 140 = .ok (.invokestatic 18, 3) := by decide +kernel
theorem dL_ahead_143 : decode cL_ahead 143 = .ok (.if_icmp .ge 7, 3) := by decide +kernel
theorem dL_ahead_146 : decode cL_ahead 146 = .ok (.iconst 1, 1) := by decide +kernel
theorem dL_ahead_147 : decode cL_ahead 147 = .ok (.goto 17, 3) := by decide +kernel
theorem dL_ahead_150 : decode cL_ahead 150 = .ok (.iconst 0, 1) := by decide +kernel
theorem dL_ahead_151 : decode cL_ahead 151 = .ok (.goto 13, 3) := by decide +kernel
theorem dL_ahead_154 : decode cL_ahead 154 = .ok (.iload_n 0, 1) := by decide +kernel
theorem dL_ahead_155 : decode cL_ahead 155 = .ok (.iload_n 1, 1) := by decide +kernel
theorem dL_ahead_156 : decode cL_ahead 156 = .ok (.if_icmp .ge 7, 3) := by decide +kernel
theorem dL_ahead_159 : decode cL_ahead 159 = .ok (.iconst 1, 1) := by decide +kernel
theorem dL_ahead_160 : decode cL_ahead 160 = .ok (.goto 4, 3) := by decide +kernel
theorem dL_ahead_163 : decode cL_ahead 163 = .ok (.iconst 0, 1) := by decide +kernel
theorem dL_ahead_164 : decode cL_ahead 164 = .ok (.ireturn, 1) := by decide +kernel
theorem dL_best_0 : decode cL_best 0 = .ok (.aload_n 3, 1) := by decide +kernel
theorem dL_best_1 : decode cL_best 1 = .ok (.iload_n 0, 1) := by decide +kernel
theorem dL_best_2 : decode cL_best 2 = .ok (.laload, 1) := by decide +kernel
theorem dL_best_3 : decode cL_best 3 = .ok (.aload_n 2, 1) := by decide +kernel
theorem dL_best_4 : decode cL_best 4 = .ok (.iconst 1, 1) := by decide +kernel
theorem dL_best_5 : decode cL_best 5 = .ok (.iaload, 1) := by decide +kernel
theorem dL_best_6 : decode cL_best 6 = .ok (.invokestatic 22, 3) := by decide +kernel
theorem dL_best_9 : decode cL_best 9 = .ok (.lstore 4, 2) := by decide +kernel
theorem dL_best_11 : decode cL_best 11 = .ok (.iconst 1, 1) := by decide +kernel
theorem dL_best_12 : decode cL_best 12 = .ok (.istore 6, 2) := by decide +kernel
theorem dL_best_14 : decode cL_best 14 = .ok (.iload 6, 2) := by decide +kernel
theorem dL_best_16 : decode cL_best 16 = .ok (.lload 4, 2) := by decide +kernel
theorem dL_best_18 : decode cL_best 18 = .ok (.invokestatic 18, 3) := by decide +kernel
theorem dL_best_21 : decode cL_best 21 = .ok (.if_icmp .gt 139, 3) := by decide +kernel
theorem dL_best_24 : decode cL_best 24 = .ok (.iconst 0, 1) := by decide +kernel
theorem dL_best_25 : decode cL_best 25 = .ok (.istore 7, 2) := by decide +kernel
theorem dL_best_27 : decode cL_best 27 = .ok (.iload 7, 2) := by decide +kernel
theorem dL_best_29 : decode cL_best 29 = .ok (.iload 6, 2) := by decide +kernel
theorem dL_best_31 : decode cL_best 31 = .ok (.iadd, 1) := by decide +kernel
theorem dL_best_32 : decode cL_best 32 = .ok (.lload 4, 2) := by decide +kernel
theorem dL_best_34 : decode cL_best 34 = .ok (.invokestatic 18, 3) := by decide +kernel
theorem dL_best_37 : decode cL_best 37 = .ok (.if_icmp .gt 117, 3) := by decide +kernel
theorem dL_best_40 : decode cL_best 40 = .ok (.lload 4, 2) := by decide +kernel
theorem dL_best_42 : decode cL_best 42 = .ok (.iload 7, 2) := by decide +kernel
theorem dL_best_44 : decode cL_best 44 = .ok (.iload 6, 2) := by decide +kernel
theorem dL_best_46 : decode cL_best 46 = .ok (.aload_n 2, 1) := by decide +kernel
theorem dL_best_47 : decode cL_best 47 = .ok (.iconst 1, 1) := by decide +kernel
theorem dL_best_48 : decode cL_best 48 = .ok (.iaload, 1) := by decide +kernel
theorem dL_best_49 : decode cL_best 49 = .ok (.invokestatic 26, 3) := by decide +kernel
theorem dL_best_52 : decode cL_best 52 = .ok (.lstore 8, 2) := by decide +kernel
theorem dL_best_54 : decode cL_best 54 = .ok (.lload 8, 2) := by decide +kernel
theorem dL_best_56 : decode cL_best 56 = .ok (.lconst 0, 1) := by decide +kernel
theorem dL_best_57 : decode cL_best 57 = .ok (.lcmp, 1) := by decide +kernel
theorem dL_best_58 : decode cL_best 58 = .ok (.ifCond .ne 6, 3) := by decide +kernel
theorem dL_best_61 : decode cL_best 61 = .ok (.goto 87, 3) := by decide +kernel
theorem dL_best_64 : decode cL_best 64 = .ok (.iconst 1, 1) := by decide +kernel
theorem dL_best_65 : decode cL_best 65 = .ok (.istore 10, 2) := by decide +kernel
theorem dL_best_67 : decode cL_best 67 = .ok (.iconst 0, 1) := by decide +kernel
theorem dL_best_68 : decode cL_best 68 = .ok (.istore 11, 2) := by decide +kernel
theorem dL_best_70 : decode cL_best 70 = .ok (.iload 11, 2) := by decide +kernel
theorem dL_best_72 : decode cL_best 72 = .ok (.aload_n 2, 1) := by decide +kernel
theorem dL_best_73 : decode cL_best 73 = .ok (.iconst 0, 1) := by decide +kernel
theorem dL_best_74 : decode cL_best 74 = .ok (.iaload, 1) := by decide +kernel
theorem dL_best_75 : decode cL_best 75 = .ok (.if_icmp .ge 59, 3) := by decide +kernel
theorem dL_best_78 : decode cL_best 78 = .ok (.iload 10, 2) := by decide +kernel
theorem dL_best_80 : decode cL_best 80 = .ok (.ifCond .eq 45, 3) := by decide +kernel
theorem dL_best_83 : decode cL_best 83 = .ok (.iload 11, 2) := by decide +kernel
theorem dL_best_85 : decode cL_best 85 = .ok (.iload_n 0, 1) := by decide +kernel
theorem dL_best_86 : decode cL_best 86 = .ok (.if_icmp .eq 35, 3) := by decide +kernel
theorem dL_best_89 : decode cL_best 89 = .ok (.aload_n 3, 1) := by decide +kernel
theorem dL_best_90 : decode cL_best 90 = .ok (.iload 11, 2) := by decide +kernel
theorem dL_best_92 : decode cL_best 92 = .ok (.laload, 1) := by decide +kernel
theorem dL_best_93 : decode cL_best 93 = .ok (.lload 8, 2) := by decide +kernel
theorem dL_best_95 : decode cL_best 95 = .ok (.aload_n 2, 1) := by decide +kernel
theorem dL_best_96 : decode cL_best 96 = .ok (.iconst 1, 1) := by decide +kernel
theorem dL_best_97 : decode cL_best 97 = .ok (.iaload, 1) := by decide +kernel
theorem dL_best_98 : decode cL_best 98 = .ok (.invokestatic 38, 3) := by decide +kernel
theorem dL_best_101 : decode cL_best 101 = .ok (.ifCond .lt 20, 3) := by decide +kernel
theorem dL_best_104 : decode cL_best 104 = .ok (.iload_n 1, 1) := by decide +kernel
theorem dL_best_105 : decode cL_best 105 = .ok (.ifCond .ne 20, 3) := by decide +kernel
theorem dL_best_108 : decode cL_best 108 = .ok (.iload_n 0, 1) := by decide +kernel
theorem dL_best_109 : decode cL_best 109 = .ok (.iload 11, 2) := by decide +kernel
theorem dL_best_111 : decode cL_best 111 = .ok (.lload 8, 2) := by decide +kernel
theorem dL_best_113 : decode cL_best 113 = .ok (.aload_n 2, 1) := by decide +kernel
theorem dL_best_114 : decode cL_best 114 = .ok (.aload_n 3, 1) := by decide +kernel
theorem dL_best_115 : decode cL_best 115 = .ok (.invokestatic 42, 3) := by decide +kernel
theorem dL_best_118 : decode cL_best 118 = .ok (.ifCond .eq 7, 3) := by decide +kernel
theorem dL_best_121 : decode cL_best 121 = .ok (.iconst 1, 1) := by decide +kernel
theorem dL_best_122 : decode cL_best 122 = .ok (.goto 4, 3) := by decide +kernel
theorem dL_best_125 : decode cL_best 125 = .ok (.iconst 0, 1) := by decide +kernel
theorem dL_best_126 : decode cL_best 126 = .ok (.istore 10, 2) := by decide +kernel
theorem dL_best_128 : decode cL_best 128 = .ok (.iinc 11 1, 3) := by decide +kernel
theorem dL_best_131 : decode cL_best 131 = .ok (.goto (-61), 3) := by decide +kernel
theorem dL_best_134 : decode cL_best 134 = .ok (.iload 10, 2) := by decide +kernel
theorem dL_best_136 : decode cL_best 136 = .ok (.ifCond .eq 12, 3) := by decide +kernel
theorem dL_best_139 : decode cL_best 139 = .ok (.bipush 100, 2) := by decide +kernel
theorem dL_best_141 : decode cL_best 141 = .ok (.iload 7, 2) := by decide +kernel
theorem dL_best_143 : decode cL_best 143 = .ok (.imul, 1) := by decide +kernel
theorem dL_best_144 : decode cL_best 144 = .ok (.iload 6, 2) := by decide +kernel
theorem dL_best_146 : decode cL_best 146 = .ok (.iadd, 1) := by decide +kernel
theorem dL_best_147 : decode cL_best 147 = .ok (.ireturn, 1) := by decide +kernel
theorem dL_best_148 : decode cL_best 148 = .ok (.iinc 7 1, 3) := by decide +kernel
theorem dL_best_151 : decode cL_best 151 = .ok (.goto (-124), 3) := by decide +kernel
theorem dL_best_154 : decode cL_best 154 = .ok (.iinc 6 1, 3) := by decide +kernel
theorem dL_best_157 : decode cL_best 157 = .ok (.goto (-143), 3) := by decide +kernel
theorem dL_best_160 : decode cL_best 160 = .ok (.bipush (-6), 2) := by decide +kernel
theorem dL_best_162 : decode cL_best 162 = .ok (.ireturn, 1) := by decide +kernel
theorem dL_common_0 : decode cL_common 0 = .ok (.iconst 0, 1) := by decide +kernel
theorem dL_common_1 : decode cL_common 1 = .ok (.istore 4, 2) := by decide +kernel
theorem dL_common_3 : decode cL_common 3 = .ok (.iconst 0, 1) := by decide +kernel
theorem dL_common_4 : decode cL_common 4 = .ok (.istore 5, 2) := by decide +kernel
theorem dL_common_6 : decode cL_common 6 = .ok (.iload 5, 2) := by decide +kernel
theorem dL_common_8 : decode cL_common 8 = .ok (.lload_n 0, 1) := by decide +kernel
theorem dL_common_9 : decode cL_common 9 = .ok (.invokestatic 18, 3) := by decide +kernel
theorem dL_common_12 : decode cL_common 12 = .ok (.if_icmp .ge 97, 3) := by decide +kernel
theorem dL_common_15 : decode cL_common 15 = .ok (.iconst 0, 1) := by decide +kernel
theorem dL_common_16 : decode cL_common 16 = .ok (.istore 6, 2) := by decide +kernel
theorem dL_common_18 : decode cL_common 18 = .ok (.iload 6, 2) := by decide +kernel
theorem dL_common_20 : decode cL_common 20 = .ok (.lload_n 2, 1) := by decide +kernel
theorem dL_common_21 : decode cL_common 21 = .ok (.invokestatic 18, 3) := by decide +kernel
theorem dL_common_24 : decode cL_common 24 = .ok (.if_icmp .ge 79, 3) := by decide +kernel
theorem dL_common_27 : decode cL_common 27 = .ok (.iconst 0, 1) := by decide +kernel
theorem dL_common_28 : decode cL_common 28 = .ok (.istore 7, 2) := by decide +kernel
theorem dL_common_30 : decode cL_common 30 = .ok (.iload 5, 2) := by decide +kernel
theorem dL_common_32 : decode cL_common 32 = .ok (.iload 7, 2) := by decide +kernel
theorem dL_common_34 : decode cL_common 34 = .ok (.iadd, 1) := by decide +kernel
theorem dL_common_35 : decode cL_common 35 = .ok (.lload_n 0, 1) := by decide +kernel
theorem dL_common_36 : decode cL_common 36 = .ok (.invokestatic 18, 3) := by decide +kernel
theorem dL_common_39 : decode cL_common 39 = .ok (.if_icmp .ge 42, 3) := by decide +kernel
theorem dL_common_42 : decode cL_common 42 = .ok (.iload 6, 2) := by decide +kernel
theorem dL_common_44 : decode cL_common 44 = .ok (.iload 7, 2) := by decide +kernel
theorem dL_common_46 : decode cL_common 46 = .ok (.iadd, 1) := by decide +kernel
theorem dL_common_47 : decode cL_common 47 = .ok (.lload_n 2, 1) := by decide +kernel
theorem dL_common_48 : decode cL_common 48 = .ok (.invokestatic 18, 3) := by decide +kernel
theorem dL_common_51 : decode cL_common 51 = .ok (.if_icmp .ge 30, 3) := by decide +kernel
theorem dL_common_54 : decode cL_common 54 = .ok (.lload_n 0, 1) := by decide +kernel
theorem dL_common_55 : decode cL_common 55 = .ok (.iload 5, 2) := by decide +kernel
theorem dL_common_57 : decode cL_common 57 = .ok (.iload 7, 2) := by decide +kernel
theorem dL_common_59 : decode cL_common 59 = .ok (.iadd, 1) := by decide +kernel
theorem dL_common_60 : decode cL_common 60 = .ok (.invokestatic 12, 3) := by decide +kernel
theorem dL_common_63 : decode cL_common 63 = .ok (.lload_n 2, 1) := by decide +kernel
theorem dL_common_64 : decode cL_common 64 = .ok (.iload 6, 2) := by decide +kernel
theorem dL_common_66 : decode cL_common 66 = .ok (.iload 7, 2) := by decide +kernel
theorem dL_common_68 : decode cL_common 68 = .ok (.iadd, 1) := by decide +kernel
theorem dL_common_69 : decode cL_common 69 = .ok (.invokestatic 12, 3) := by decide +kernel
theorem dL_common_72 : decode cL_common 72 = .ok (.if_icmp .ne 9, 3) := by decide +kernel
theorem dL_common_75 : decode cL_common 75 = .ok (.iinc 7 1, 3) := by decide +kernel
theorem dL_common_78 : decode cL_common 78 = .ok (.goto (-48), 3) := by decide +kernel
theorem dL_common_81 : decode cL_common 81 = .ok (.iload 7, 2) := by decide +kernel
theorem dL_common_83 : decode cL_common 83 = .ok (.iload 4, 2) := by decide +kernel
theorem dL_common_85 : decode cL_common 85 = .ok (.if_icmp .le 8, 3) := by decide +kernel
theorem dL_common_88 : decode cL_common 88 = .ok (.iload 7, 2) := by decide +kernel
theorem dL_common_90 : decode cL_common 90 = .ok (.goto 5, 3) := by decide +kernel
theorem dL_common_93 : decode cL_common 93 = .ok (.iload 4, 2) := by decide +kernel
theorem dL_common_95 : decode cL_common 95 = .ok (.istore 4, 2) := by decide +kernel
theorem dL_common_97 : decode cL_common 97 = .ok (.iinc 6 1, 3) := by decide +kernel
theorem dL_common_100 : decode cL_common 100 = .ok (.goto (-82), 3) := by decide +kernel
theorem dL_common_103 : decode cL_common 103 = .ok (.iinc 5 1, 3) := by decide +kernel
theorem dL_common_106 : decode cL_common 106 = .ok (.goto (-100), 3) := by decide +kernel
theorem dL_common_109 : decode cL_common 109 = .ok (.iload 4, 2) := by decide +kernel
theorem dL_common_111 : decode cL_common 111 = .ok (.ireturn, 1) := by decide +kernel
theorem dL_cut_0 : decode cL_cut 0 = .ok (.lload_n 0, 1) := by decide +kernel
theorem dL_cut_1 : decode cL_cut 1 = .ok (.invokestatic 18, 3) := by decide +kernel
theorem dL_cut_4 : decode cL_cut 4 = .ok (.istore_n 2, 1) := by decide +kernel
theorem dL_cut_5 : decode cL_cut 5 = .ok (.iload_n 2, 1) := by decide +kernel
theorem dL_cut_6 : decode cL_cut 6 = .ok (.ifCond .le 29, 3) := by decide +kernel
theorem dL_cut_9 : decode cL_cut 9 = .ok (.lload_n 0, 1) := by decide +kernel
theorem dL_cut_10 : decode cL_cut 10 = .ok (.iload_n 2, 1) := by decide +kernel
theorem dL_cut_11 : decode cL_cut 11 = .ok (.iconst 1, 1) := by decide +kernel
theorem dL_cut_12 : decode cL_cut 12 = .ok (.isub, 1) := by decide +kernel
theorem dL_cut_13 : decode cL_cut 13 = .ok (.invokestatic 12, 3) := by decide +kernel
theorem dL_cut_16 : decode cL_cut 16 = .ok (.bipush 27, 2) := by decide +kernel
theorem dL_cut_18 : decode cL_cut 18 = .ok (.if_icmp .ne 17, 3) := by decide +kernel
theorem dL_cut_21 : decode cL_cut 21 = .ok (.lload_n 0, 1) := by decide +kernel
theorem dL_cut_22 : decode cL_cut 22 = .ok (.lconst 1, 1) := by decide +kernel
theorem dL_cut_23 : decode cL_cut 23 = .ok (.iconst 5, 1) := by decide +kernel
theorem dL_cut_24 : decode cL_cut 24 = .ok (.iload_n 2, 1) := by decide +kernel
theorem dL_cut_25 : decode cL_cut 25 = .ok (.imul, 1) := by decide +kernel
theorem dL_cut_26 : decode cL_cut 26 = .ok (.iconst 5, 1) := by decide +kernel
theorem dL_cut_27 : decode cL_cut 27 = .ok (.isub, 1) := by decide +kernel
theorem dL_cut_28 : decode cL_cut 28 = .ok (.lshl, 1) := by decide +kernel
theorem dL_cut_29 : decode cL_cut 29 = .ok (.lconst 1, 1) := by decide +kernel
theorem dL_cut_30 : decode cL_cut 30 = .ok (.lsub, 1) := by decide +kernel
theorem dL_cut_31 : decode cL_cut 31 = .ok (.land, 1) := by decide +kernel
theorem dL_cut_32 : decode cL_cut 32 = .ok (.goto 4, 3) := by decide +kernel
theorem dL_cut_35 : decode cL_cut 35 = .ok (.lload_n 0, 1) := by decide +kernel
theorem dL_cut_36 : decode cL_cut 36 = .ok (.lreturn, 1) := by decide +kernel
theorem dL_ranked_0 : decode cL_ranked 0 = .ok (.lload_n 1, 1) := by decide +kernel
theorem dL_ranked_1 : decode cL_ranked 1 = .ok (.invokestatic 48, 3) := by decide +kernel
theorem dL_ranked_4 : decode cL_ranked 4 = .ok (.lstore 5, 2) := by decide +kernel
theorem dL_ranked_6 : decode cL_ranked 6 = .ok (.iconst 0, 1) := by decide +kernel
theorem dL_ranked_7 : decode cL_ranked 7 = .ok (.istore 7, 2) := by decide +kernel
theorem dL_ranked_9 : decode cL_ranked 9 = .ok (.iload 7, 2) := by decide +kernel
theorem dL_ranked_11 : decode cL_ranked 11 = .ok (.aload_n 3, 1) := by decide +kernel
theorem dL_ranked_12 : decode cL_ranked 12 = .ok (.iconst 0, 1) := by decide +kernel
theorem dL_ranked_13 : decode cL_ranked 13 = .ok (.iaload, 1) := by decide +kernel
theorem dL_ranked_14 : decode cL_ranked 14 = .ok (.if_icmp .ge 105, 3) := by decide +kernel
theorem dL_ranked_17 : decode cL_ranked 17 = .ok (.aload 4, 2) := by decide +kernel
theorem dL_ranked_19 : decode cL_ranked 19 = .ok (.iload 7, 2) := by decide +kernel
theorem dL_ranked_21 : decode cL_ranked 21 = .ok (.laload, 1) := by decide +kernel
theorem dL_ranked_22 : decode cL_ranked 22 = .ok (.lload 5, 2) := by decide +kernel
theorem dL_ranked_24 : decode cL_ranked 24 = .ok (.aload_n 3, 1) := by decide +kernel
theorem dL_ranked_25 : decode cL_ranked 25 = .ok (.iconst 1, 1) := by decide +kernel
theorem dL_ranked_26 : decode cL_ranked 26 = .ok (.iaload, 1) := by decide +kernel
theorem dL_ranked_27 : decode cL_ranked 27 = .ok (.invokestatic 38, 3) := by decide +kernel
theorem dL_ranked_30 : decode cL_ranked 30 = .ok (.ifCond .ge 6, 3) := by decide +kernel
theorem dL_ranked_33 : decode cL_ranked 33 = .ok (.goto 80, 3) := by decide +kernel
theorem dL_ranked_36 : decode cL_ranked 36 = .ok (.iconst 0, 1) := by decide +kernel
theorem dL_ranked_37 : decode cL_ranked 37 = .ok (.istore 8, 2) := by decide +kernel
theorem dL_ranked_39 : decode cL_ranked 39 = .ok (.iconst 0, 1) := by decide +kernel
theorem dL_ranked_40 : decode cL_ranked 40 = .ok (.istore 9, 2) := by decide +kernel
theorem dL_ranked_42 : decode cL_ranked 42 = .ok (.iload 9, 2) := by decide +kernel
theorem dL_ranked_44 : decode cL_ranked 44 = .ok (.aload_n 3, 1) := by decide +kernel
theorem dL_ranked_45 : decode cL_ranked 45 = .ok (.iconst 0, 1) := by decide +kernel
theorem dL_ranked_46 : decode cL_ranked 46 = .ok (.iaload, 1) := by decide +kernel
theorem dL_ranked_47 : decode cL_ranked 47 = .ok (.if_icmp .ge 57, 3) := by decide +kernel
theorem dL_ranked_50 : decode cL_ranked 50 = .ok (.iload 8, 2) := by decide +kernel
theorem dL_ranked_52 : decode cL_ranked 52 = .ok (.iload 9, 2) := by decide +kernel
theorem dL_ranked_54 : decode cL_ranked 54 = .ok (.iload 7, 2) := by decide +kernel
theorem dL_ranked_56 : decode cL_ranked 56 = .ok (.if_icmp .eq 38, 3) := by decide +kernel
theorem dL_ranked_59 : decode cL_ranked 59 = .ok (.aload 4, 2) := by decide +kernel
theorem dL_ranked_61 : decode cL_ranked 61 = .ok (.iload 9, 2) := by decide +kernel
theorem dL_ranked_63 : decode cL_ranked 63 = .ok (.laload, 1) := by decide +kernel
theorem dL_ranked_64 : decode cL_ranked 64 = .ok (.lload 5, 2) := by decide +kernel
theorem dL_ranked_66 : decode cL_ranked 66 = .ok (.aload_n 3, 1) := by decide +kernel
theorem dL_ranked_67 : decode cL_ranked 67 = .ok (.iconst 1, 1) := by decide +kernel
theorem dL_ranked_68 : decode cL_ranked 68 = .ok (.iaload, 1) := by decide +kernel
theorem dL_ranked_69 : decode cL_ranked 69 = .ok (.invokestatic 38, 3) := by decide +kernel
theorem dL_ranked_72 : decode cL_ranked 72 = .ok (.ifCond .lt 22, 3) := by decide +kernel
theorem dL_ranked_75 : decode cL_ranked 75 = .ok (.iload 9, 2) := by decide +kernel
theorem dL_ranked_77 : decode cL_ranked 77 = .ok (.iload 7, 2) := by decide +kernel
theorem dL_ranked_79 : decode cL_ranked 79 = .ok (.lload 5, 2) := by decide +kernel
theorem dL_ranked_81 : decode cL_ranked 81 = .ok (.aload_n 3, 1) := by decide +kernel
theorem dL_ranked_82 : decode cL_ranked 82 = .ok (.aload 4, 2) := by decide +kernel
theorem dL_ranked_84 : decode cL_ranked 84 = .ok (.invokestatic 42, 3) := by decide +kernel
theorem dL_ranked_87 : decode cL_ranked 87 = .ok (.ifCond .eq 7, 3) := by decide +kernel
theorem dL_ranked_90 : decode cL_ranked 90 = .ok (.iconst 1, 1) := by decide +kernel
theorem dL_ranked_91 : decode cL_ranked 91 = .ok (.goto 4, 3) := by decide +kernel
theorem dL_ranked_94 : decode cL_ranked 94 = .ok (.iconst 0, 1) := by decide +kernel
theorem dL_ranked_95 : decode cL_ranked 95 = .ok (.iadd, 1) := by decide +kernel
theorem dL_ranked_96 : decode cL_ranked 96 = .ok (.istore 8, 2) := by decide +kernel
theorem dL_ranked_98 : decode cL_ranked 98 = .ok (.iinc 9 1, 3) := by decide +kernel
theorem dL_ranked_101 : decode cL_ranked 101 = .ok (.goto (-59), 3) := by decide +kernel
theorem dL_ranked_104 : decode cL_ranked 104 = .ok (.iload 8, 2) := by decide +kernel
theorem dL_ranked_106 : decode cL_ranked 106 = .ok (.iload_n 0, 1) := by decide +kernel
theorem dL_ranked_107 : decode cL_ranked 107 = .ok (.if_icmp .ne 6, 3) := by decide +kernel
theorem dL_ranked_110 : decode cL_ranked 110 = .ok (.iload 7, 2) := by decide +kernel
theorem dL_ranked_112 : decode cL_ranked 112 = .ok (.ireturn, 1) := by decide +kernel
theorem dL_ranked_113 : decode cL_ranked 113 = .ok (.iinc 7 1, 3) := by decide +kernel
theorem dL_ranked_116 : decode cL_ranked 116 = .ok (.goto (-107), 3) := by decide +kernel
theorem dL_ranked_119 : decode cL_ranked 119 = .ok (.iconst (-1), 1) := by decide +kernel
theorem dL_ranked_120 : decode cL_ranked 120 = .ok (.ireturn, 1) := by decide +kernel
theorem dL_same_0 : decode cL_same 0 = .ok (.iconst 0, 1) := by decide +kernel
theorem dL_same_1 : decode cL_same 1 = .ok (.istore 6, 2) := by decide +kernel
theorem dL_same_3 : decode cL_same 3 = .ok (.bipush (-6), 2) := by decide +kernel
theorem dL_same_5 : decode cL_same 5 = .ok (.istore 7, 2) := by decide +kernel
theorem dL_same_7 : decode cL_same 7 = .ok (.iconst 0, 1) := by decide +kernel
theorem dL_same_8 : decode cL_same 8 = .ok (.istore 8, 2) := by decide +kernel
theorem dL_same_10 : decode cL_same 10 = .ok (.iconst 0, 1) := by decide +kernel
theorem dL_same_11 : decode cL_same 11 = .ok (.istore 9, 2) := by decide +kernel
theorem dL_same_13 : decode cL_same 13 = .ok (.iload 9, 2) := by decide +kernel
theorem dL_same_15 : decode cL_same 15 = .ok (.aload 4, 2) := by decide +kernel
theorem dL_same_17 : decode cL_same 17 = .ok (.iconst 0, 1) := by decide +kernel
theorem dL_same_18 : decode cL_same 18 = .ok (.iaload, 1) := by decide +kernel
theorem dL_same_19 : decode cL_same 19 = .ok (.if_icmp .ge 427, 3) := by decide +kernel
theorem dL_same_22 : decode cL_same 22 = .ok (.aload 5, 2) := by decide +kernel
theorem dL_same_24 : decode cL_same 24 = .ok (.iload 9, 2) := by decide +kernel
theorem dL_same_26 : decode cL_same 26 = .ok (.laload, 1) := by decide +kernel
theorem dL_same_27 : decode cL_same 27 = .ok (.invokestatic 18, 3) := by decide +kernel
theorem dL_same_30 : decode cL_same 30 = .ok (.istore 10, 2) := by decide +kernel
theorem dL_same_32 : decode cL_same 32 = .ok (.iconst 1, 1) := by decide +kernel
theorem dL_same_33 : decode cL_same 33 = .ok (.istore 11, 2) := by decide +kernel
theorem dL_same_35 : decode cL_same 35 = .ok (.iconst 0, 1) := by decide +kernel
theorem dL_same_36 : decode cL_same 36 = .ok (.istore 12, 2) := by decide +kernel
theorem dL_same_38 : decode cL_same 38 = .ok (.iload 12, 2) := by decide +kernel
theorem dL_same_40 : decode cL_same 40 = .ok (.iload 10, 2) := by decide +kernel
theorem dL_same_42 : decode cL_same 42 = .ok (.if_icmp .ge 60, 3) := by decide +kernel
theorem dL_same_45 : decode cL_same 45 = .ok (.iload 11, 2) := by decide +kernel
theorem dL_same_47 : decode cL_same 47 = .ok (.aload 5, 2) := by decide +kernel
theorem dL_same_49 : decode cL_same 49 = .ok (.iload 9, 2) := by decide +kernel
theorem dL_same_51 : decode cL_same 51 = .ok (.laload, 1) := by decide +kernel
theorem dL_same_52 : decode cL_same 52 = .ok (.iload 12, 2) := by decide +kernel
theorem dL_same_54 : decode cL_same 54 = .ok (.invokestatic 12, 3) := by decide +kernel
theorem dL_same_57 : decode cL_same 57 = .ok (.bipush 27, 2) := by decide +kernel
theorem dL_same_59 : decode cL_same 59 = .ok (.if_icmp .ne 7, 3) := by decide +kernel
theorem dL_same_62 : decode cL_same 62 = .ok (.iconst 1, 1) := by decide +kernel
theorem dL_same_63 : decode cL_same 63 = .ok (.goto 4, 3) := by decide +kernel
theorem dL_same_66 : decode cL_same 66 = .ok (.iconst 0, 1) := by decide +kernel
theorem dL_same_67 : decode cL_same 67 = .ok (.iadd, 1) := by decide +kernel
theorem dL_same_68 : decode cL_same 68 = .ok (.istore 11, 2) := by decide +kernel
theorem dL_same_70 : decode cL_same 70 = .ok (.aload_n 0, 1) := by decide +kernel
theorem dL_same_71 : decode cL_same 71 = .ok (.iload 9, 2) := by decide +kernel
theorem dL_same_73 : decode cL_same 73 = .ok (.iload 12, 2) := by decide +kernel
theorem dL_same_75 : decode cL_same 75 = .ok (.invokevirtual 52, 3) := by decide +kernel
theorem dL_same_78 : decode cL_same 78 = .ok (.aload 5, 2) := by decide +kernel
theorem dL_same_80 : decode cL_same 80 = .ok (.iload 9, 2) := by decide +kernel
theorem dL_same_82 : decode cL_same 82 = .ok (.laload, 1) := by decide +kernel
theorem dL_same_83 : decode cL_same 83 = .ok (.iload 12, 2) := by decide +kernel
theorem dL_same_85 : decode cL_same 85 = .ok (.invokestatic 12, 3) := by decide +kernel
theorem dL_same_88 : decode cL_same 88 = .ok (.invokestatic 30, 3) := by decide +kernel
theorem dL_same_91 : decode cL_same 91 = .ok (.if_icmp .eq 5, 3) := by decide +kernel
theorem dL_same_94 : decode cL_same 94 = .ok (.iconst 0, 1) := by decide +kernel
theorem dL_same_95 : decode cL_same 95 = .ok (.ireturn, 1) := by decide +kernel
theorem dL_same_96 : decode cL_same 96 = .ok (.iinc 12 1, 3) := by decide +kernel
theorem dL_same_99 : decode cL_same 99 = .ok (.goto (-61), 3) := by decide +kernel
theorem dL_same_102 : decode cL_same 102 = .ok (.iload 9, 2) := by decide +kernel
theorem dL_same_104 : decode cL_same 104 = .ok (.iconst 1, 1) := by decide +kernel
theorem dL_same_105 : decode cL_same 105 = .ok (.aload 4, 2) := by decide +kernel
theorem dL_same_107 : decode cL_same 107 = .ok (.aload 5, 2) := by decide +kernel
theorem dL_same_109 : decode cL_same 109 = .ok (.invokestatic 56, 3) := by decide +kernel
theorem dL_same_112 : decode cL_same 112 = .ok (.istore 12, 2) := by decide +kernel
theorem dL_same_114 : decode cL_same 114 = .ok (.iload 9, 2) := by decide +kernel
theorem dL_same_116 : decode cL_same 116 = .ok (.iconst 0, 1) := by decide +kernel
theorem dL_same_117 : decode cL_same 117 = .ok (.aload 4, 2) := by decide +kernel
theorem dL_same_119 : decode cL_same 119 = .ok (.aload 5, 2) := by decide +kernel
theorem dL_same_121 : decode cL_same 121 = .ok (.invokestatic 56, 3) := by decide +kernel
theorem dL_same_124 : decode cL_same 124 = .ok (.istore 13, 2) := by decide +kernel
theorem dL_same_126 : decode cL_same 126 = .ok (.aload_n 0, 1) := by decide +kernel
theorem dL_same_127 : decode cL_same 127 = .ok (.iload 9, 2) := by decide +kernel
theorem dL_same_129 : decode cL_same 129 = .ok (.iconst 0, 1) := by decide +kernel
theorem dL_same_130 : decode cL_same 130 = .ok (.invokevirtual 60, 3) := by decide +kernel
theorem dL_same_133 : decode cL_same 133 = .ok (.iload 10, 2) := by decide +kernel
theorem dL_same_135 : decode cL_same 135 = .ok (.if_icmp .ne 145, 3) := by decide +kernel
theorem dL_same_138 : decode cL_same 138 = .ok (.aload_n 0, 1) := by decide +kernel
theorem dL_same_139 : decode cL_same 139 = .ok (.iload 9, 2) := by decide +kernel
theorem dL_same_141 : decode cL_same 141 = .ok (.iconst 1, 1) := by decide +kernel
theorem dL_same_142 : decode cL_same 142 = .ok (.invokevirtual 60, 3) := by decide +kernel
theorem dL_same_145 : decode cL_same 145 = .ok (.iload 11, 2) := by decide +kernel
theorem dL_same_147 : decode cL_same 147 = .ok (.if_icmp .ne 133, 3) := by decide +kernel
theorem dL_same_150 : decode cL_same 150 = .ok (.aload_n 0, 1) := by decide +kernel
theorem dL_same_151 : decode cL_same 151 = .ok (.iload 9, 2) := by decide +kernel
theorem dL_same_153 : decode cL_same 153 = .ok (.iconst 2, 1) := by decide +kernel
theorem dL_same_154 : decode cL_same 154 = .ok (.invokevirtual 60, 3) := by decide +kernel
theorem dL_same_157 : decode cL_same 157 = .ok (.aload 4, 2) := by decide +kernel
theorem dL_same_159 : decode cL_same 159 = .ok (.iconst 3, 1) := by decide +kernel
theorem dL_same_160 : decode cL_same 160 = .ok (.iload 9, 2) := by decide +kernel
theorem dL_same_162 : decode cL_same 162 = .ok (.iadd, 1) := by decide +kernel
theorem dL_same_163 : decode cL_same 163 = .ok (.iaload, 1) := by decide +kernel
theorem dL_same_164 : decode cL_same 164 = .ok (.if_icmp .ne 116, 3) := by decide +kernel
theorem dL_same_167 : decode cL_same 167 = .ok (.aload_n 0, 1) := by decide +kernel
theorem dL_same_168 : decode cL_same 168 = .ok (.iload 9, 2) := by decide +kernel
theorem dL_same_170 : decode cL_same 170 = .ok (.iconst 3, 1) := by decide +kernel
theorem dL_same_171 : decode cL_same 171 = .ok (.invokevirtual 60, 3) := by decide +kernel
theorem dL_same_174 : decode cL_same 174 = .ok (.iload 12, 2) := by decide +kernel
theorem dL_same_176 : decode cL_same 176 = .ok (.ifCond .ge 8, 3) := by decide +kernel
theorem dL_same_179 : decode cL_same 179 = .ok (.iload 12, 2) := by decide +kernel
theorem dL_same_181 : decode cL_same 181 = .ok (.goto 8, 3) := by decide +kernel
theorem dL_same_184 : decode cL_same 184 = .ok (.iload 12, 2) := by decide +kernel
theorem dL_same_186 : decode cL_same 186 = .ok (.bipush 100, 2) := by decide +kernel
theorem dL_same_188 : decode cL_same 188 = .ok (.idiv, 1) := by decide +kernel
theorem dL_same_189 : decode cL_same 189 = .ok (.if_icmp .ne 91, 3) := by decide +kernel
theorem dL_same_192 : decode cL_same 192 = .ok (.aload_n 0, 1) := by decide +kernel
theorem dL_same_193 : decode cL_same 193 = .ok (.iload 9, 2) := by decide +kernel
theorem dL_same_195 : decode cL_same 195 = .ok (.iconst 4, 1) := by decide +kernel
theorem dL_same_196 : decode cL_same 196 = .ok (.invokevirtual 60, 3) := by decide +kernel
theorem dL_same_199 : decode cL_same 199 = .ok (.iload 12, 2) := by decide +kernel
theorem dL_same_201 : decode cL_same 201 = .ok (.ifCond .ge 8, 3) := by decide +kernel
theorem dL_same_204 : decode cL_same 204 = .ok (.iload 12, 2) := by decide +kernel
theorem dL_same_206 : decode cL_same 206 = .ok (.goto 8, 3) := by decide +kernel
theorem dL_same_209 : decode cL_same 209 = .ok (.iload 12, 2) := by decide +kernel
theorem dL_same_211 : decode cL_same 211 = .ok (.bipush 100, 2) := by decide +kernel
theorem dL_same_213 : decode cL_same 213 = .ok (.irem, 1) := by decide +kernel
theorem dL_same_214 : decode cL_same 214 = .ok (.if_icmp .ne 66, 3) := by decide +kernel
theorem dL_same_217 : decode cL_same 217 = .ok (.aload_n 0, 1) := by decide +kernel
theorem dL_same_218 : decode cL_same 218 = .ok (.iload 9, 2) := by decide +kernel
theorem dL_same_220 : decode cL_same 220 = .ok (.iconst 5, 1) := by decide +kernel
theorem dL_same_221 : decode cL_same 221 = .ok (.invokevirtual 60, 3) := by decide +kernel
theorem dL_same_224 : decode cL_same 224 = .ok (.iload 13, 2) := by decide +kernel
theorem dL_same_226 : decode cL_same 226 = .ok (.ifCond .ge 8, 3) := by decide +kernel
theorem dL_same_229 : decode cL_same 229 = .ok (.iload 13, 2) := by decide +kernel
theorem dL_same_231 : decode cL_same 231 = .ok (.goto 8, 3) := by decide +kernel
theorem dL_same_234 : decode cL_same 234 = .ok (.iload 13, 2) := by decide +kernel
theorem dL_same_236 : decode cL_same 236 = .ok (.bipush 100, 2) := by decide +kernel
theorem dL_same_238 : decode cL_same 238 = .ok (.idiv, 1) := by decide +kernel
theorem dL_same_239 : decode cL_same 239 = .ok (.if_icmp .ne 41, 3) := by decide +kernel
theorem dL_same_242 : decode cL_same 242 = .ok (.aload_n 0, 1) := by decide +kernel
theorem dL_same_243 : decode cL_same 243 = .ok (.iload 9, 2) := by decide +kernel
theorem dL_same_245 : decode cL_same 245 = .ok (.bipush 6, 2) := by decide +kernel
theorem dL_same_247 : decode cL_same 247 = .ok (.invokevirtual 60, 3) := by decide +kernel
theorem dL_same_250 : decode cL_same 250 = .ok (.iload 13, 2) := by decide +kernel
theorem dL_same_252 : decode cL_same 252 = .ok (.ifCond .ge 8, 3) := by decide +kernel
theorem dL_same_255 : decode cL_same 255 = .ok (.iload 13, 2) := by decide +kernel
theorem dL_same_257 : decode cL_same 257 = .ok (.goto 8, 3) := by decide +kernel
theorem dL_same_260 : decode cL_same 260 = .ok (.iload 13, 2) := by decide +kernel
theorem dL_same_262 : decode cL_same 262 = .ok (.bipush 100, 2) := by decide +kernel
theorem dL_same_264 : decode cL_same 264 = .ok (.irem, 1) := by decide +kernel
theorem dL_same_265 : decode cL_same 265 = .ok (.if_icmp .ne 15, 3) := by decide +kernel
theorem dL_same_268 : decode cL_same 268 = .ok (.aload_n 0, 1) := by decide +kernel
theorem dL_same_269 : decode cL_same 269 = .ok (.iload 9, 2) := by decide +kernel
theorem dL_same_271 : decode cL_same 271 = .ok (.iload 10, 2) := by decide +kernel
theorem dL_same_273 : decode cL_same 273 = .ok (.invokevirtual 52, 3) := by decide +kernel
theorem dL_same_276 : decode cL_same 276 = .ok (.iconst (-1), 1) := by decide +kernel
theorem dL_same_277 : decode cL_same 277 = .ok (.if_icmp .eq 5, 3) := by decide +kernel
theorem dL_same_280 : decode cL_same 280 = .ok (.iconst 0, 1) := by decide +kernel
theorem dL_same_281 : decode cL_same 281 = .ok (.ireturn, 1) := by decide +kernel
theorem dL_same_282 : decode cL_same 282 = .ok (.iload 6, 2) := by decide +kernel
theorem dL_same_284 : decode cL_same 284 = .ok (.iload 12, 2) := by decide +kernel
theorem dL_same_286 : decode cL_same 286 = .ok (.ifCond .ge 7, 3) := by decide +kernel
theorem dL_same_289 : decode cL_same 289 = .ok (.iconst 1, 1) := by decide +kernel
theorem dL_same_290 : decode cL_same 290 = .ok (.goto 4, 3) := by decide +kernel
theorem dL_same_293 : decode cL_same 293 = .ok (.iconst 0, 1) := by decide +kernel
theorem dL_same_294 : decode cL_same 294 = .ok (.iadd, 1) := by decide +kernel
theorem dL_same_295 : decode cL_same 295 = .ok (.istore 6, 2) := by decide +kernel
theorem dL_same_297 : decode cL_same 297 = .ok (.iload 12, 2) := by decide +kernel
theorem dL_same_299 : decode cL_same 299 = .ok (.ifCond .lt 24, 3) := by decide +kernel
theorem dL_same_302 : decode cL_same 302 = .ok (.iload 12, 2) := by decide +kernel
theorem dL_same_304 : decode cL_same 304 = .ok (.bipush 100, 2) := by decide +kernel
theorem dL_same_306 : decode cL_same 306 = .ok (.irem, 1) := by decide +kernel
theorem dL_same_307 : decode cL_same 307 = .ok (.iload 8, 2) := by decide +kernel
theorem dL_same_309 : decode cL_same 309 = .ok (.if_icmp .le 14, 3) := by decide +kernel
theorem dL_same_312 : decode cL_same 312 = .ok (.iload 12, 2) := by decide +kernel
theorem dL_same_314 : decode cL_same 314 = .ok (.bipush 100, 2) := by decide +kernel
theorem dL_same_316 : decode cL_same 316 = .ok (.irem, 1) := by decide +kernel
theorem dL_same_317 : decode cL_same 317 = .ok (.istore 8, 2) := by decide +kernel
theorem dL_same_319 : decode cL_same 319 = .ok (.iload 9, 2) := by decide +kernel
theorem dL_same_321 : decode cL_same 321 = .ok (.istore 7, 2) := by decide +kernel
theorem dL_same_323 : decode cL_same 323 = .ok (.bipush (-6), 2) := by decide +kernel
theorem dL_same_325 : decode cL_same 325 = .ok (.istore 14, 2) := by decide +kernel
theorem dL_same_327 : decode cL_same 327 = .ok (.aload 4, 2) := by decide +kernel
theorem dL_same_329 : decode cL_same 329 = .ok (.iconst 0, 1) := by decide +kernel
theorem dL_same_330 : decode cL_same 330 = .ok (.iaload, 1) := by decide +kernel
theorem dL_same_331 : decode cL_same 331 = .ok (.iconst 1, 1) := by decide +kernel
theorem dL_same_332 : decode cL_same 332 = .ok (.isub, 1) := by decide +kernel
theorem dL_same_333 : decode cL_same 333 = .ok (.istore 15, 2) := by decide +kernel
theorem dL_same_335 : decode cL_same 335 = .ok (.iload 15, 2) := by decide +kernel
theorem dL_same_337 : decode cL_same 337 = .ok (.ifCond .lt 54, 3) := by decide +kernel
theorem dL_same_340 : decode cL_same 340 = .ok (.iload 15, 2) := by decide +kernel
theorem dL_same_342 : decode cL_same 342 = .ok (.iload 9, 2) := by decide +kernel
theorem dL_same_344 : decode cL_same 344 = .ok (.if_icmp .eq 41, 3) := by decide +kernel
theorem dL_same_347 : decode cL_same 347 = .ok (.iload 14, 2) := by decide +kernel
theorem dL_same_349 : decode cL_same 349 = .ok (.ifCond .lt 32, 3) := by decide +kernel
theorem dL_same_352 : decode cL_same 352 = .ok (.aload 5, 2) := by decide +kernel
theorem dL_same_354 : decode cL_same 354 = .ok (.iload 9, 2) := by decide +kernel
theorem dL_same_356 : decode cL_same 356 = .ok (.laload, 1) := by decide +kernel
theorem dL_same_357 : decode cL_same 357 = .ok (.aload 5, 2) := by decide +kernel
theorem dL_same_359 : decode cL_same 359 = .ok (.iload 15, 2) := by decide +kernel
theorem dL_same_361 : decode cL_same 361 = .ok (.laload, 1) := by decide +kernel
theorem dL_same_362 : decode cL_same 362 = .ok (.invokestatic 63, 3) := by decide +kernel
theorem dL_same_365 : decode cL_same 365 = .ok (.aload 5, 2) := by decide +kernel
theorem dL_same_367 : decode cL_same 367 = .ok (.iload 9, 2) := by decide +kernel
theorem dL_same_369 : decode cL_same 369 = .ok (.laload, 1) := by decide +kernel
theorem dL_same_370 : decode cL_same 370 = .ok (.aload 5, 2) := by decide +kernel
theorem dL_same_372 : decode cL_same 372 = .ok (.iload 14, 2) := by decide +kernel
theorem dL_same_374 : decode cL_same 374 = .ok (.laload, 1) := by decide +kernel
theorem dL_same_375 : decode cL_same 375 = .ok (.invokestatic 63, 3) := by decide +kernel
theorem dL_same_378 : decode cL_same 378 = .ok (.if_icmp .lt 7, 3) := by decide +kernel
theorem dL_same_381 : decode cL_same 381 = .ok (.iload 15, 2) := by decide +kernel
theorem dL_same_383 : decode cL_same 383 = .ok (.istore 14, 2) := by decide +kernel
theorem dL_same_385 : decode cL_same 385 = .ok (.iinc 15 (-1), 3) := by decide +kernel
theorem dL_same_388 : decode cL_same 388 = .ok (.goto (-53), 3) := by decide +kernel
theorem dL_same_391 : decode cL_same 391 = .ok (.aload_n 0, 1) := by decide +kernel
theorem dL_same_392 : decode cL_same 392 = .ok (.iload 9, 2) := by decide +kernel
theorem dL_same_394 : decode cL_same 394 = .ok (.invokevirtual 67, 3) := by decide +kernel
theorem dL_same_397 : decode cL_same 397 = .ok (.iload 14, 2) := by decide +kernel
theorem dL_same_399 : decode cL_same 399 = .ok (.if_icmp .ne 39, 3) := by decide +kernel
theorem dL_same_402 : decode cL_same 402 = .ok (.aload_n 0, 1) := by decide +kernel
theorem dL_same_403 : decode cL_same 403 = .ok (.iload 9, 2) := by decide +kernel
theorem dL_same_405 : decode cL_same 405 = .ok (.iload_n 1, 1) := by decide +kernel
theorem dL_same_406 : decode cL_same 406 = .ok (.aload 4, 2) := by decide +kernel
theorem dL_same_408 : decode cL_same 408 = .ok (.iconst 0, 1) := by decide +kernel
theorem dL_same_409 : decode cL_same 409 = .ok (.iaload, 1) := by decide +kernel
theorem dL_same_410 : decode cL_same 410 = .ok (.invokestatic 70, 3) := by decide +kernel
theorem dL_same_413 : decode cL_same 413 = .ok (.invokevirtual 73, 3) := by decide +kernel
theorem dL_same_416 : decode cL_same 416 = .ok (.aload 5, 2) := by decide +kernel
theorem dL_same_418 : decode cL_same 418 = .ok (.iload 9, 2) := by decide +kernel
theorem dL_same_420 : decode cL_same 420 = .ok (.laload, 1) := by decide +kernel
theorem dL_same_421 : decode cL_same 421 = .ok (.aload 5, 2) := by decide +kernel
theorem dL_same_423 : decode cL_same 423 = .ok (.iload_n 1, 1) := by decide +kernel
theorem dL_same_424 : decode cL_same 424 = .ok (.aload 4, 2) := by decide +kernel
theorem dL_same_426 : decode cL_same 426 = .ok (.iconst 0, 1) := by decide +kernel
theorem dL_same_427 : decode cL_same 427 = .ok (.iaload, 1) := by decide +kernel
theorem dL_same_428 : decode cL_same 428 = .ok (.invokestatic 70, 3) := by decide +kernel
theorem dL_same_431 : decode cL_same 431 = .ok (.laload, 1) := by decide +kernel
theorem dL_same_432 : decode cL_same 432 = .ok (.invokestatic 63, 3) := by decide +kernel
theorem dL_same_435 : decode cL_same 435 = .ok (.if_icmp .eq 5, 3) := by decide +kernel
theorem dL_same_438 : decode cL_same 438 = .ok (.iconst 0, 1) := by decide +kernel
theorem dL_same_439 : decode cL_same 439 = .ok (.ireturn, 1) := by decide +kernel
theorem dL_same_440 : decode cL_same 440 = .ok (.iinc 9 1, 3) := by decide +kernel
theorem dL_same_443 : decode cL_same 443 = .ok (.goto (-430), 3) := by decide +kernel
theorem dL_same_446 : decode cL_same 446 = .ok (.iconst 0, 1) := by decide +kernel
theorem dL_same_447 : decode cL_same 447 = .ok (.istore 9, 2) := by decide +kernel
theorem dL_same_449 : decode cL_same 449 = .ok (.iconst 0, 1) := by decide +kernel
theorem dL_same_450 : decode cL_same 450 = .ok (.istore 10, 2) := by decide +kernel
theorem dL_same_452 : decode cL_same 452 = .ok (.iload 10, 2) := by decide +kernel
theorem dL_same_454 : decode cL_same 454 = .ok (.aload 4, 2) := by decide +kernel
theorem dL_same_456 : decode cL_same 456 = .ok (.iconst 0, 1) := by decide +kernel
theorem dL_same_457 : decode cL_same 457 = .ok (.iaload, 1) := by decide +kernel
theorem dL_same_458 : decode cL_same 458 = .ok (.if_icmp .ge 38, 3) := by decide +kernel
theorem dL_same_461 : decode cL_same 461 = .ok (.iload 9, 2) := by decide +kernel
theorem dL_same_463 : decode cL_same 463 = .ok (.aload 5, 2) := by decide +kernel
theorem dL_same_465 : decode cL_same 465 = .ok (.iload 10, 2) := by decide +kernel
theorem dL_same_467 : decode cL_same 467 = .ok (.laload, 1) := by decide +kernel
theorem dL_same_468 : decode cL_same 468 = .ok (.lload_n 2, 1) := by decide +kernel
theorem dL_same_469 : decode cL_same 469 = .ok (.invokestatic 48, 3) := by decide +kernel
theorem dL_same_472 : decode cL_same 472 = .ok (.aload 4, 2) := by decide +kernel
theorem dL_same_474 : decode cL_same 474 = .ok (.iconst 1, 1) := by decide +kernel
theorem dL_same_475 : decode cL_same 475 = .ok (.iaload, 1) := by decide +kernel
theorem dL_same_476 : decode cL_same 476 = .ok (.invokestatic 38, 3) := by decide +kernel
theorem dL_same_479 : decode cL_same 479 = .ok (.ifCond .ge 7, 3) := by decide +kernel
theorem dL_same_482 : decode cL_same 482 = .ok (.iconst 0, 1) := by decide +kernel
theorem dL_same_483 : decode cL_same 483 = .ok (.goto 4, 3) := by decide +kernel
theorem dL_same_486 : decode cL_same 486 = .ok (.iconst 1, 1) := by decide +kernel
theorem dL_same_487 : decode cL_same 487 = .ok (.iadd, 1) := by decide +kernel
theorem dL_same_488 : decode cL_same 488 = .ok (.istore 9, 2) := by decide +kernel
theorem dL_same_490 : decode cL_same 490 = .ok (.iinc 10 1, 3) := by decide +kernel
theorem dL_same_493 : decode cL_same 493 = .ok (.goto (-41), 3) := by decide +kernel
theorem dL_same_496 : decode cL_same 496 = .ok (.iconst 0, 1) := by decide +kernel
theorem dL_same_497 : decode cL_same 497 = .ok (.istore 10, 2) := by decide +kernel
theorem dL_same_499 : decode cL_same 499 = .ok (.iload 10, 2) := by decide +kernel
theorem dL_same_501 : decode cL_same 501 = .ok (.iload 9, 2) := by decide +kernel
theorem dL_same_503 : decode cL_same 503 = .ok (.if_icmp .ge 59, 3) := by decide +kernel
theorem dL_same_506 : decode cL_same 506 = .ok (.iload 10, 2) := by decide +kernel
theorem dL_same_508 : decode cL_same 508 = .ok (.lload_n 2, 1) := by decide +kernel
theorem dL_same_509 : decode cL_same 509 = .ok (.aload 4, 2) := by decide +kernel
theorem dL_same_511 : decode cL_same 511 = .ok (.aload 5, 2) := by decide +kernel
theorem dL_same_513 : decode cL_same 513 = .ok (.invokestatic 75, 3) := by decide +kernel
theorem dL_same_516 : decode cL_same 516 = .ok (.istore 11, 2) := by decide +kernel
theorem dL_same_518 : decode cL_same 518 = .ok (.aload_n 0, 1) := by decide +kernel
theorem dL_same_519 : decode cL_same 519 = .ok (.iload 10, 2) := by decide +kernel
theorem dL_same_521 : decode cL_same 521 = .ok (.invokevirtual 79, 3) := by decide +kernel
theorem dL_same_524 : decode cL_same 524 = .ok (.iload 11, 2) := by decide +kernel
theorem dL_same_526 : decode cL_same 526 = .ok (.if_icmp .ne 28, 3) := by decide +kernel
theorem dL_same_529 : decode cL_same 529 = .ok (.aload_n 0, 1) := by decide +kernel
theorem dL_same_530 : decode cL_same 530 = .ok (.iload 10, 2) := by decide +kernel
theorem dL_same_532 : decode cL_same 532 = .ok (.invokevirtual 82, 3) := by decide +kernel
theorem dL_same_535 : decode cL_same 535 = .ok (.aload 5, 2) := by decide +kernel
theorem dL_same_537 : decode cL_same 537 = .ok (.iload 11, 2) := by decide +kernel
theorem dL_same_539 : decode cL_same 539 = .ok (.laload, 1) := by decide +kernel
theorem dL_same_540 : decode cL_same 540 = .ok (.lload_n 2, 1) := by decide +kernel
theorem dL_same_541 : decode cL_same 541 = .ok (.invokestatic 48, 3) := by decide +kernel
theorem dL_same_544 : decode cL_same 544 = .ok (.aload 4, 2) := by decide +kernel
theorem dL_same_546 : decode cL_same 546 = .ok (.iconst 1, 1) := by decide +kernel
theorem dL_same_547 : decode cL_same 547 = .ok (.iaload, 1) := by decide +kernel
theorem dL_same_548 : decode cL_same 548 = .ok (.invokestatic 38, 3) := by decide +kernel
theorem dL_same_551 : decode cL_same 551 = .ok (.if_icmp .eq 5, 3) := by decide +kernel
theorem dL_same_554 : decode cL_same 554 = .ok (.iconst 0, 1) := by decide +kernel
theorem dL_same_555 : decode cL_same 555 = .ok (.ireturn, 1) := by decide +kernel
theorem dL_same_556 : decode cL_same 556 = .ok (.iinc 10 1, 3) := by decide +kernel
theorem dL_same_559 : decode cL_same 559 = .ok (.goto (-60), 3) := by decide +kernel
theorem dL_same_562 : decode cL_same 562 = .ok (.iconst 0, 1) := by decide +kernel
theorem dL_same_563 : decode cL_same 563 = .ok (.istore 10, 2) := by decide +kernel
theorem dL_same_565 : decode cL_same 565 = .ok (.iload 10, 2) := by decide +kernel
theorem dL_same_567 : decode cL_same 567 = .ok (.lload_n 2, 1) := by decide +kernel
theorem dL_same_568 : decode cL_same 568 = .ok (.invokestatic 18, 3) := by decide +kernel
theorem dL_same_571 : decode cL_same 571 = .ok (.if_icmp .ge 29, 3) := by decide +kernel
theorem dL_same_574 : decode cL_same 574 = .ok (.aload_n 0, 1) := by decide +kernel
theorem dL_same_575 : decode cL_same 575 = .ok (.iload 10, 2) := by decide +kernel
theorem dL_same_577 : decode cL_same 577 = .ok (.invokevirtual 85, 3) := by decide +kernel
theorem dL_same_580 : decode cL_same 580 = .ok (.lload_n 2, 1) := by decide +kernel
theorem dL_same_581 : decode cL_same 581 = .ok (.iload 10, 2) := by decide +kernel
theorem dL_same_583 : decode cL_same 583 = .ok (.invokestatic 12, 3) := by decide +kernel
theorem dL_same_586 : decode cL_same 586 = .ok (.invokestatic 30, 3) := by decide +kernel
theorem dL_same_589 : decode cL_same 589 = .ok (.if_icmp .eq 5, 3) := by decide +kernel
theorem dL_same_592 : decode cL_same 592 = .ok (.iconst 0, 1) := by decide +kernel
theorem dL_same_593 : decode cL_same 593 = .ok (.ireturn, 1) := by decide +kernel
theorem dL_same_594 : decode cL_same 594 = .ok (.iinc 10 1, 3) := by decide +kernel
theorem dL_same_597 : decode cL_same 597 = .ok (.goto (-32), 3) := by decide +kernel
theorem dL_same_600 : decode cL_same 600 = .ok (.aload_n 0, 1) := by decide +kernel
theorem dL_same_601 : decode cL_same 601 = .ok (.invokevirtual 88, 3) := by decide +kernel
theorem dL_same_604 : decode cL_same 604 = .ok (.aload 4, 2) := by decide +kernel
theorem dL_same_606 : decode cL_same 606 = .ok (.iconst 0, 1) := by decide +kernel
theorem dL_same_607 : decode cL_same 607 = .ok (.iaload, 1) := by decide +kernel
theorem dL_same_608 : decode cL_same 608 = .ok (.if_icmp .ne 90, 3) := by decide +kernel
theorem dL_same_611 : decode cL_same 611 = .ok (.aload_n 0, 1) := by decide +kernel
theorem dL_same_612 : decode cL_same 612 = .ok (.invokevirtual 92, 3) := by decide +kernel
theorem dL_same_615 : decode cL_same 615 = .ok (.aload 4, 2) := by decide +kernel
theorem dL_same_617 : decode cL_same 617 = .ok (.iconst 1, 1) := by decide +kernel
theorem dL_same_618 : decode cL_same 618 = .ok (.iaload, 1) := by decide +kernel
theorem dL_same_619 : decode cL_same 619 = .ok (.if_icmp .ne 79, 3) := by decide +kernel
theorem dL_same_622 : decode cL_same 622 = .ok (.aload_n 0, 1) := by decide +kernel
theorem dL_same_623 : decode cL_same 623 = .ok (.invokevirtual 95, 3) := by decide +kernel
theorem dL_same_626 : decode cL_same 626 = .ok (.aload 4, 2) := by decide +kernel
theorem dL_same_628 : decode cL_same 628 = .ok (.iconst 2, 1) := by decide +kernel
theorem dL_same_629 : decode cL_same 629 = .ok (.iaload, 1) := by decide +kernel
theorem dL_same_630 : decode cL_same 630 = .ok (.if_icmp .ne 68, 3) := by decide +kernel
theorem dL_same_633 : decode cL_same 633 = .ok (.aload_n 0, 1) := by decide +kernel
theorem dL_same_634 : decode cL_same 634 = .ok (.invokevirtual 98, 3) := by decide +kernel
theorem dL_same_637 : decode cL_same 637 = .ok (.iload 6, 2) := by decide +kernel
theorem dL_same_639 : decode cL_same 639 = .ok (.if_icmp .ne 59, 3) := by decide +kernel
theorem dL_same_642 : decode cL_same 642 = .ok (.aload_n 0, 1) := by decide +kernel
theorem dL_same_643 : decode cL_same 643 = .ok (.invokevirtual 101, 3) := by decide +kernel
theorem dL_same_646 : decode cL_same 646 = .ok (.iload 7, 2) := by decide +kernel
theorem dL_same_648 : decode cL_same 648 = .ok (.if_icmp .ne 50, 3) := by decide +kernel
theorem dL_same_651 : decode cL_same 651 = .ok (.aload_n 0, 1) := by decide +kernel
theorem dL_same_652 : decode cL_same 652 = .ok (.invokevirtual 104, 3) := by decide +kernel
theorem dL_same_655 : decode cL_same 655 = .ok (.iload 9, 2) := by decide +kernel
theorem dL_same_657 : decode cL_same 657 = .ok (.if_icmp .ne 41, 3) := by decide +kernel
theorem dL_same_660 : decode cL_same 660 = .ok (.aload_n 0, 1) := by decide +kernel
theorem dL_same_661 : decode cL_same 661 = .ok (.iload 9, 2) := by decide +kernel
theorem dL_same_663 : decode cL_same 663 = .ok (.invokevirtual 79, 3) := by decide +kernel
theorem dL_same_666 : decode cL_same 666 = .ok (.iconst (-1), 1) := by decide +kernel
theorem dL_same_667 : decode cL_same 667 = .ok (.if_icmp .ne 31, 3) := by decide +kernel
theorem dL_same_670 : decode cL_same 670 = .ok (.aload_n 0, 1) := by decide +kernel
theorem dL_same_671 : decode cL_same 671 = .ok (.invokevirtual 107, 3) := by decide +kernel
theorem dL_same_674 : decode cL_same 674 = .ok (.lload_n 2, 1) := by decide +kernel
theorem dL_same_675 : decode cL_same 675 = .ok (.invokestatic 18, 3) := by decide +kernel
theorem dL_same_678 : decode cL_same 678 = .ok (.if_icmp .ne 20, 3) := by decide +kernel
theorem dL_same_681 : decode cL_same 681 = .ok (.aload_n 0, 1) := by decide +kernel
theorem dL_same_682 : decode cL_same 682 = .ok (.aload 4, 2) := by decide +kernel
theorem dL_same_684 : decode cL_same 684 = .ok (.iconst 0, 1) := by decide +kernel
theorem dL_same_685 : decode cL_same 685 = .ok (.iaload, 1) := by decide +kernel
theorem dL_same_686 : decode cL_same 686 = .ok (.iconst 0, 1) := by decide +kernel
theorem dL_same_687 : decode cL_same 687 = .ok (.invokevirtual 60, 3) := by decide +kernel
theorem dL_same_690 : decode cL_same 690 = .ok (.iconst (-1), 1) := by decide +kernel
theorem dL_same_691 : decode cL_same 691 = .ok (.if_icmp .ne 7, 3) := by decide +kernel
theorem dL_same_694 : decode cL_same 694 = .ok (.iconst 1, 1) := by decide +kernel
theorem dL_same_695 : decode cL_same 695 = .ok (.goto 4, 3) := by decide +kernel
theorem dL_same_698 : decode cL_same 698 = .ok (.iconst 0, 1) := by decide +kernel
theorem dL_same_699 : decode cL_same 699 = .ok (.ireturn, 1) := by decide +kernel
theorem dL_made_0 : decode cL_made 0 = .ok (.lconst 0, 1) := by decide +kernel
theorem dL_made_1 : decode cL_made 1 = .ok (.lstore_n 2, 1) := by decide +kernel
theorem dL_made_2 : decode cL_made 2 = .ok (.iconst 1, 1) := by decide +kernel
theorem dL_made_3 : decode cL_made 3 = .ok (.iload_n 0, 1) := by decide +kernel
theorem dL_made_4 : decode cL_made 4 = .ok (.bipush 9, 2) := by decide +kernel
theorem dL_made_6 : decode cL_made 6 = .ok (.invokestatic 70, 3) := by decide +kernel
theorem dL_made_9 : decode cL_made 9 = .ok (.iadd, 1) := by decide +kernel
theorem dL_made_10 : decode cL_made 10 = .ok (.istore 4, 2) := by decide +kernel
theorem dL_made_12 : decode cL_made 12 = .ok (.iconst 1, 1) := by decide +kernel
theorem dL_made_13 : decode cL_made 13 = .ok (.istore 5, 2) := by decide +kernel
theorem dL_made_15 : decode cL_made 15 = .ok (.iconst 0, 1) := by decide +kernel
theorem dL_made_16 : decode cL_made 16 = .ok (.istore 6, 2) := by decide +kernel
theorem dL_made_18 : decode cL_made 18 = .ok (.iload 6, 2) := by decide +kernel
theorem dL_made_20 : decode cL_made 20 = .ok (.iload 4, 2) := by decide +kernel
theorem dL_made_22 : decode cL_made 22 = .ok (.if_icmp .ge 99, 3) := by decide +kernel
theorem dL_made_25 : decode cL_made 25 = .ok (.iload_n 1, 1) := by decide +kernel
theorem dL_made_26 : decode cL_made 26 = .ok (.iconst 2, 1) := by decide +kernel
theorem dL_made_27 : decode cL_made 27 = .ok (.iload 6, 2) := by decide +kernel
theorem dL_made_29 : decode cL_made 29 = .ok (.imul, 1) := by decide +kernel
theorem dL_made_30 : decode cL_made 30 = .ok (.ishr, 1) := by decide +kernel
theorem dL_made_31 : decode cL_made 31 = .ok (.istore 7, 2) := by decide +kernel
theorem dL_made_33 : decode cL_made 33 = .ok (.iload 5, 2) := by decide +kernel
theorem dL_made_35 : decode cL_made 35 = .ok (.ifCond .ne 26, 3) := by decide +kernel
theorem dL_made_38 : decode cL_made 38 = .ok (.iload 6, 2) := by decide +kernel
theorem dL_made_40 : decode cL_made 40 = .ok (.iload 4, 2) := by decide +kernel
theorem dL_made_42 : decode cL_made 42 = .ok (.iconst 1, 1) := by decide +kernel
theorem dL_made_43 : decode cL_made 43 = .ok (.isub, 1) := by decide +kernel
theorem dL_made_44 : decode cL_made 44 = .ok (.if_icmp .ge 17, 3) := by decide +kernel
theorem dL_made_47 : decode cL_made 47 = .ok (.iload 7, 2) := by decide +kernel
theorem dL_made_49 : decode cL_made 49 = .ok (.iconst 4, 1) := by decide +kernel
theorem dL_made_50 : decode cL_made 50 = .ok (.invokestatic 70, 3) := by decide +kernel
theorem dL_made_53 : decode cL_made 53 = .ok (.ifCond .ne 8, 3) := by decide +kernel
theorem dL_made_56 : decode cL_made 56 = .ok (.bipush 27, 2) := by decide +kernel
theorem dL_made_58 : decode cL_made 58 = .ok (.goto 30, 3) := by decide +kernel
theorem dL_made_61 : decode cL_made 61 = .ok (.iload_n 0, 1) := by decide +kernel
theorem dL_made_62 : decode cL_made 62 = .ok (.iload 6, 2) := by decide +kernel
theorem dL_made_64 : decode cL_made 64 = .ok (.ishr, 1) := by decide +kernel
theorem dL_made_65 : decode cL_made 65 = .ok (.bipush 9, 2) := by decide +kernel
theorem dL_made_67 : decode cL_made 67 = .ok (.invokestatic 70, 3) := by decide +kernel
theorem dL_made_70 : decode cL_made 70 = .ok (.ifCond .ne 8, 3) := by decide +kernel
theorem dL_made_73 : decode cL_made 73 = .ok (.bipush 28, 2) := by decide +kernel
theorem dL_made_75 : decode cL_made 75 = .ok (.goto 13, 3) := by decide +kernel
theorem dL_made_78 : decode cL_made 78 = .ok (.iconst 1, 1) := by decide +kernel
theorem dL_made_79 : decode cL_made 79 = .ok (.iload 7, 2) := by decide +kernel
theorem dL_made_81 : decode cL_made 81 = .ok (.iconst 1, 1) := by decide +kernel
theorem dL_made_82 : decode cL_made 82 = .ok (.ishr, 1) := by decide +kernel
theorem dL_made_83 : decode cL_made 83 = .ok (.iconst 2, 1) := by decide +kernel
theorem dL_made_84 : decode cL_made 84 = .ok (.invokestatic 70, 3) := by decide +kernel
theorem dL_made_87 : decode cL_made 87 = .ok (.iadd, 1) := by decide +kernel
theorem dL_made_88 : decode cL_made 88 = .ok (.istore 8, 2) := by decide +kernel
theorem dL_made_90 : decode cL_made 90 = .ok (.iload 8, 2) := by decide +kernel
theorem dL_made_92 : decode cL_made 92 = .ok (.bipush 27, 2) := by decide +kernel
theorem dL_made_94 : decode cL_made 94 = .ok (.if_icmp .ne 7, 3) := by decide +kernel
theorem dL_made_97 : decode cL_made 97 = .ok (.iconst 1, 1) := by decide +kernel
theorem dL_made_98 : decode cL_made 98 = .ok (.goto 4, 3) := by decide +kernel
theorem dL_made_101 : decode cL_made 101 = .ok (.iconst 0, 1) := by decide +kernel
theorem dL_made_102 : decode cL_made 102 = .ok (.istore 5, 2) := by decide +kernel
theorem dL_made_104 : decode cL_made 104 = .ok (.lload_n 2, 1) := by decide +kernel
theorem dL_made_105 : decode cL_made 105 = .ok (.iload 8, 2) := by decide +kernel
theorem dL_made_107 : decode cL_made 107 = .ok (.i2l, 1) := by decide +kernel
theorem dL_made_108 : decode cL_made 108 = .ok (.iconst 5, 1) := by decide +kernel
theorem dL_made_109 : decode cL_made 109 = .ok (.iload 6, 2) := by decide +kernel
theorem dL_made_111 : decode cL_made 111 = .ok (.imul, 1) := by decide +kernel
theorem dL_made_112 : decode cL_made 112 = .ok (.lshl, 1) := by decide +kernel
theorem dL_made_113 : decode cL_made 113 = .ok (.lor, 1) := by decide +kernel
theorem dL_made_114 : decode cL_made 114 = .ok (.lstore_n 2, 1) := by decide +kernel
theorem dL_made_115 : decode cL_made 115 = .ok (.iinc 6 1, 3) := by decide +kernel
theorem dL_made_118 : decode cL_made 118 = .ok (.goto (-100), 3) := by decide +kernel
theorem dL_made_121 : decode cL_made 121 = .ok (.lload_n 2, 1) := by decide +kernel
theorem dL_made_122 : decode cL_made 122 = .ok (.lreturn, 1) := by decide +kernel
theorem dL_law_0 : decode cL_law 0 = .ok (.new 46, 3) := by decide +kernel
theorem dL_law_3 : decode cL_law 3 = .ok (.dup, 1) := by decide +kernel
theorem dL_law_4 : decode cL_law 4 = .ok (.invokespecial 110, 3) := by decide +kernel
theorem dL_law_7 : decode cL_law 7 = .ok (.astore_n 1, 1) := by decide +kernel
theorem dL_law_8 : decode cL_law 8 = .ok (.bipush 9, 2) := by decide +kernel
theorem dL_law_10 : decode cL_law 10 = .ok (.newarray .int, 2) := by decide +kernel
theorem dL_law_12 : decode cL_law 12 = .ok (.astore_n 2, 1) := by decide +kernel
theorem dL_law_13 : decode cL_law 13 = .ok (.bipush 7, 2) := by decide +kernel
theorem dL_law_15 : decode cL_law 15 = .ok (.newarray .long, 2) := by decide +kernel
theorem dL_law_17 : decode cL_law 17 = .ok (.astore_n 3, 1) := by decide +kernel
theorem dL_law_18 : decode cL_law 18 = .ok (.lconst 0, 1) := by decide +kernel
theorem dL_law_19 : decode cL_law 19 = .ok (.lstore 4, 2) := by decide +kernel
theorem dL_law_21 : decode cL_law 21 = .ok (.iconst 0, 1) := by decide +kernel
theorem dL_law_22 : decode cL_law 22 = .ok (.istore 6, 2) := by decide +kernel
theorem dL_law_24 : decode cL_law 24 = .ok (.iload 6, 2) := by decide +kernel
theorem dL_law_26 : decode cL_law 26 = .ok (.bipush 26, 2) := by decide +kernel
theorem dL_law_28 : decode cL_law 28 = .ok (.if_icmp .ge 902, 3) := by decide +kernel
theorem dL_law_31 : decode cL_law 31 = .ok (.aload_n 0, 1) := by decide +kernel
theorem dL_law_32 : decode cL_law 32 = .ok (.iconst 2, 1) := by decide +kernel
theorem dL_law_33 : decode cL_law 33 = .ok (.iload 6, 2) := by decide +kernel
theorem dL_law_35 : decode cL_law 35 = .ok (.imul, 1) := by decide +kernel
theorem dL_law_36 : decode cL_law 36 = .ok (.invokestatic 111, 3) := by decide +kernel
theorem dL_law_39 : decode cL_law 39 = .ok (.istore 7, 2) := by decide +kernel
theorem dL_law_41 : decode cL_law 41 = .ok (.aload_n 0, 1) := by decide +kernel
theorem dL_law_42 : decode cL_law 42 = .ok (.iconst 2, 1) := by decide +kernel
theorem dL_law_43 : decode cL_law 43 = .ok (.iload 6, 2) := by decide +kernel
theorem dL_law_45 : decode cL_law 45 = .ok (.imul, 1) := by decide +kernel
theorem dL_law_46 : decode cL_law 46 = .ok (.iconst 1, 1) := by decide +kernel
theorem dL_law_47 : decode cL_law 47 = .ok (.iadd, 1) := by decide +kernel
theorem dL_law_48 : decode cL_law 48 = .ok (.invokestatic 111, 3) := by decide +kernel
theorem dL_law_51 : decode cL_law 51 = .ok (.istore 8, 2) := by decide +kernel
theorem dL_law_53 : decode cL_law 53 = .ok (.iload 6, 2) := by decide +kernel
theorem dL_law_55 : decode cL_law 55 = .ok (.iconst 4, 1) := by decide +kernel
theorem dL_law_56 : decode cL_law 56 = .ok (.if_icmp .ge 7, 3) := by decide +kernel
theorem dL_law_59 : decode cL_law 59 = .ok (.iconst 0, 1) := by decide +kernel
theorem dL_law_60 : decode cL_law 60 = .ok (.goto 10, 3) := by decide +kernel
theorem dL_law_63 : decode cL_law 63 = .ok (.iload 7, 2) := by decide +kernel
theorem dL_law_65 : decode cL_law 65 = .ok (.bipush 12, 2) := by decide +kernel
theorem dL_law_67 : decode cL_law 67 = .ok (.invokestatic 70, 3) := by decide +kernel
theorem dL_law_70 : decode cL_law 70 = .ok (.istore 9, 2) := by decide +kernel
theorem dL_law_72 : decode cL_law 72 = .ok (.lload 4, 2) := by decide +kernel
theorem dL_law_74 : decode cL_law 74 = .ok (.invokestatic 18, 3) := by decide +kernel
theorem dL_law_77 : decode cL_law 77 = .ok (.istore 10, 2) := by decide +kernel
theorem dL_law_79 : decode cL_law 79 = .ok (.iload 9, 2) := by decide +kernel
theorem dL_law_81 : decode cL_law 81 = .ok (.iconst 3, 1) := by decide +kernel
theorem dL_law_82 : decode cL_law 82 = .ok (.if_icmp .ge 272, 3) := by decide +kernel
theorem dL_law_85 : decode cL_law 85 = .ok (.aload_n 2, 1) := by decide +kernel
theorem dL_law_86 : decode cL_law 86 = .ok (.iconst 0, 1) := by decide +kernel
theorem dL_law_87 : decode cL_law 87 = .ok (.iaload, 1) := by decide +kernel
theorem dL_law_88 : decode cL_law 88 = .ok (.bipush 6, 2) := by decide +kernel
theorem dL_law_90 : decode cL_law 90 = .ok (.if_icmp .ne 6, 3) := by decide +kernel
theorem dL_law_93 : decode cL_law 93 = .ok (.goto 831, 3) := by decide +kernel
theorem dL_law_96 : decode cL_law 96 = .ok (.iload 7, 2) := by decide +kernel
theorem dL_law_98 : decode cL_law 98 = .ok (.iconst 3, 1) := by decide +kernel
theorem dL_law_99 : decode cL_law 99 = .ok (.ishr, 1) := by decide +kernel
theorem dL_law_100 : decode cL_law 100 = .ok (.iload 8, 2) := by decide +kernel
theorem dL_law_102 : decode cL_law 102 = .ok (.invokestatic 115, 3) := by decide +kernel
theorem dL_law_105 : decode cL_law 105 = .ok (.lstore 11, 2) := by decide +kernel
theorem dL_law_107 : decode cL_law 107 = .ok (.iconst 0, 1) := by decide +kernel
theorem dL_law_108 : decode cL_law 108 = .ok (.istore 13, 2) := by decide +kernel
theorem dL_law_110 : decode cL_law 110 = .ok (.iconst 0, 1) := by decide +kernel
theorem dL_law_111 : decode cL_law 111 = .ok (.istore 14, 2) := by decide +kernel
theorem dL_law_113 : decode cL_law 113 = .ok (.iload 14, 2) := by decide +kernel
theorem dL_law_115 : decode cL_law 115 = .ok (.aload_n 2, 1) := by decide +kernel
theorem dL_law_116 : decode cL_law 116 = .ok (.iconst 0, 1) := by decide +kernel
theorem dL_law_117 : decode cL_law 117 = .ok (.iaload, 1) := by decide +kernel
theorem dL_law_118 : decode cL_law 118 = .ok (.if_icmp .ge 31, 3) := by decide +kernel
theorem dL_law_121 : decode cL_law 121 = .ok (.iload 13, 2) := by decide +kernel
theorem dL_law_123 : decode cL_law 123 = .ok (.ifCond .ne 13, 3) := by decide +kernel
theorem dL_law_126 : decode cL_law 126 = .ok (.aload_n 3, 1) := by decide +kernel
theorem dL_law_127 : decode cL_law 127 = .ok (.iload 14, 2) := by decide +kernel
theorem dL_law_129 : decode cL_law 129 = .ok (.laload, 1) := by decide +kernel
theorem dL_law_130 : decode cL_law 130 = .ok (.lload 11, 2) := by decide +kernel
theorem dL_law_132 : decode cL_law 132 = .ok (.lcmp, 1) := by decide +kernel
theorem dL_law_133 : decode cL_law 133 = .ok (.ifCond .ne 7, 3) := by decide +kernel
theorem dL_law_136 : decode cL_law 136 = .ok (.iconst 1, 1) := by decide +kernel
theorem dL_law_137 : decode cL_law 137 = .ok (.goto 4, 3) := by decide +kernel
theorem dL_law_140 : decode cL_law 140 = .ok (.iconst 0, 1) := by decide +kernel
theorem dL_law_141 : decode cL_law 141 = .ok (.istore 13, 2) := by decide +kernel
theorem dL_law_143 : decode cL_law 143 = .ok (.iinc 14 1, 3) := by decide +kernel
theorem dL_law_146 : decode cL_law 146 = .ok (.goto (-33), 3) := by decide +kernel
theorem dL_law_149 : decode cL_law 149 = .ok (.iconst 0, 1) := by decide +kernel
theorem dL_law_150 : decode cL_law 150 = .ok (.istore 14, 2) := by decide +kernel
theorem dL_law_152 : decode cL_law 152 = .ok (.iload 14, 2) := by decide +kernel
theorem dL_law_154 : decode cL_law 154 = .ok (.lload 11, 2) := by decide +kernel
theorem dL_law_156 : decode cL_law 156 = .ok (.invokestatic 18, 3) := by decide +kernel
theorem dL_law_159 : decode cL_law 159 = .ok (.if_icmp .ge 32, 3) := by decide +kernel
theorem dL_law_162 : decode cL_law 162 = .ok (.aload_n 1, 1) := by decide +kernel
theorem dL_law_163 : decode cL_law 163 = .ok (.lload 11, 2) := by decide +kernel
theorem dL_law_165 : decode cL_law 165 = .ok (.iload 14, 2) := by decide +kernel
theorem dL_law_167 : decode cL_law 167 = .ok (.invokestatic 12, 3) := by decide +kernel
theorem dL_law_170 : decode cL_law 170 = .ok (.invokestatic 30, 3) := by decide +kernel
theorem dL_law_173 : decode cL_law 173 = .ok (.invokevirtual 119, 3) := by decide +kernel
theorem dL_law_176 : decode cL_law 176 = .ok (.iload 14, 2) := by decide +kernel
theorem dL_law_178 : decode cL_law 178 = .ok (.iconst 1, 1) := by decide +kernel
theorem dL_law_179 : decode cL_law 179 = .ok (.iadd, 1) := by decide +kernel
theorem dL_law_180 : decode cL_law 180 = .ok (.if_icmp .eq 5, 3) := by decide +kernel
theorem dL_law_183 : decode cL_law 183 = .ok (.iconst 0, 1) := by decide +kernel
theorem dL_law_184 : decode cL_law 184 = .ok (.ireturn, 1) := by decide +kernel
theorem dL_law_185 : decode cL_law 185 = .ok (.iinc 14 1, 3) := by decide +kernel
theorem dL_law_188 : decode cL_law 188 = .ok (.goto (-36), 3) := by decide +kernel
theorem dL_law_191 : decode cL_law 191 = .ok (.iconst 0, 1) := by decide +kernel
theorem dL_law_192 : decode cL_law 192 = .ok (.istore 14, 2) := by decide +kernel
theorem dL_law_194 : decode cL_law 194 = .ok (.aload_n 3, 1) := by decide +kernel
theorem dL_law_195 : decode cL_law 195 = .ok (.aload_n 2, 1) := by decide +kernel
theorem dL_law_196 : decode cL_law 196 = .ok (.iconst 0, 1) := by decide +kernel
theorem dL_law_197 : decode cL_law 197 = .ok (.iaload, 1) := by decide +kernel
theorem dL_law_198 : decode cL_law 198 = .ok (.lload 11, 2) := by decide +kernel
theorem dL_law_200 : decode cL_law 200 = .ok (.lastore, 1) := by decide +kernel
theorem dL_law_201 : decode cL_law 201 = .ok (.aload_n 2, 1) := by decide +kernel
theorem dL_law_202 : decode cL_law 202 = .ok (.iconst 3, 1) := by decide +kernel
theorem dL_law_203 : decode cL_law 203 = .ok (.aload_n 2, 1) := by decide +kernel
theorem dL_law_204 : decode cL_law 204 = .ok (.iconst 0, 1) := by decide +kernel
theorem dL_law_205 : decode cL_law 205 = .ok (.iaload, 1) := by decide +kernel
theorem dL_law_206 : decode cL_law 206 = .ok (.iadd, 1) := by decide +kernel
theorem dL_law_207 : decode cL_law 207 = .ok (.iconst 0, 1) := by decide +kernel
theorem dL_law_208 : decode cL_law 208 = .ok (.iastore, 1) := by decide +kernel
theorem dL_law_209 : decode cL_law 209 = .ok (.iconst 0, 1) := by decide +kernel
theorem dL_law_210 : decode cL_law 210 = .ok (.istore 15, 2) := by decide +kernel
theorem dL_law_212 : decode cL_law 212 = .ok (.iload 15, 2) := by decide +kernel
theorem dL_law_214 : decode cL_law 214 = .ok (.aload_n 2, 1) := by decide +kernel
theorem dL_law_215 : decode cL_law 215 = .ok (.iconst 0, 1) := by decide +kernel
theorem dL_law_216 : decode cL_law 216 = .ok (.iaload, 1) := by decide +kernel
theorem dL_law_217 : decode cL_law 217 = .ok (.if_icmp .ge 56, 3) := by decide +kernel
theorem dL_law_220 : decode cL_law 220 = .ok (.iload 15, 2) := by decide +kernel
theorem dL_law_222 : decode cL_law 222 = .ok (.iconst 1, 1) := by decide +kernel
theorem dL_law_223 : decode cL_law 223 = .ok (.aload_n 2, 1) := by decide +kernel
theorem dL_law_224 : decode cL_law 224 = .ok (.aload_n 3, 1) := by decide +kernel
theorem dL_law_225 : decode cL_law 225 = .ok (.invokestatic 56, 3) := by decide +kernel
theorem dL_law_228 : decode cL_law 228 = .ok (.istore 16, 2) := by decide +kernel
theorem dL_law_230 : decode cL_law 230 = .ok (.aload_n 2, 1) := by decide +kernel
theorem dL_law_231 : decode cL_law 231 = .ok (.iconst 0, 1) := by decide +kernel
theorem dL_law_232 : decode cL_law 232 = .ok (.dup2, 1) := by decide +kernel
theorem dL_law_233 : decode cL_law 233 = .ok (.iaload, 1) := by decide +kernel
theorem dL_law_234 : decode cL_law 234 = .ok (.iconst 1, 1) := by decide +kernel
theorem dL_law_235 : decode cL_law 235 = .ok (.iadd, 1) := by decide +kernel
theorem dL_law_236 : decode cL_law 236 = .ok (.iastore, 1) := by decide +kernel
theorem dL_law_237 : decode cL_law 237 = .ok (.iload 14, 2) := by decide +kernel
theorem dL_law_239 : decode cL_law 239 = .ok (.iload 15, 2) := by decide +kernel
theorem dL_law_241 : decode cL_law 241 = .ok (.iconst 1, 1) := by decide +kernel
theorem dL_law_242 : decode cL_law 242 = .ok (.aload_n 2, 1) := by decide +kernel
theorem dL_law_243 : decode cL_law 243 = .ok (.aload_n 3, 1) := by decide +kernel
theorem dL_law_244 : decode cL_law 244 = .ok (.invokestatic 56, 3) := by decide +kernel
theorem dL_law_247 : decode cL_law 247 = .ok (.iload 16, 2) := by decide +kernel
theorem dL_law_249 : decode cL_law 249 = .ok (.if_icmp .ne 7, 3) := by decide +kernel
theorem dL_law_252 : decode cL_law 252 = .ok (.iconst 0, 1) := by decide +kernel
theorem dL_law_253 : decode cL_law 253 = .ok (.goto 4, 3) := by decide +kernel
theorem dL_law_256 : decode cL_law 256 = .ok (.iconst 1, 1) := by decide +kernel
theorem dL_law_257 : decode cL_law 257 = .ok (.iadd, 1) := by decide +kernel
theorem dL_law_258 : decode cL_law 258 = .ok (.istore 14, 2) := by decide +kernel
theorem dL_law_260 : decode cL_law 260 = .ok (.aload_n 2, 1) := by decide +kernel
theorem dL_law_261 : decode cL_law 261 = .ok (.iconst 0, 1) := by decide +kernel
theorem dL_law_262 : decode cL_law 262 = .ok (.dup2, 1) := by decide +kernel
theorem dL_law_263 : decode cL_law 263 = .ok (.iaload, 1) := by decide +kernel
theorem dL_law_264 : decode cL_law 264 = .ok (.iconst 1, 1) := by decide +kernel
theorem dL_law_265 : decode cL_law 265 = .ok (.isub, 1) := by decide +kernel
theorem dL_law_266 : decode cL_law 266 = .ok (.iastore, 1) := by decide +kernel
theorem dL_law_267 : decode cL_law 267 = .ok (.iinc 15 1, 3) := by decide +kernel
theorem dL_law_270 : decode cL_law 270 = .ok (.goto (-58), 3) := by decide +kernel
theorem dL_law_273 : decode cL_law 273 = .ok (.aload_n 1, 1) := by decide +kernel
theorem dL_law_274 : decode cL_law 274 = .ok (.invokevirtual 122, 3) := by decide +kernel
theorem dL_law_277 : decode cL_law 277 = .ok (.iload 13, 2) := by decide +kernel
theorem dL_law_279 : decode cL_law 279 = .ok (.ifCond .eq 8, 3) := by decide +kernel
theorem dL_law_282 : decode cL_law 282 = .ok (.bipush (-3), 2) := by decide +kernel
theorem dL_law_284 : decode cL_law 284 = .ok (.goto 5, 3) := by decide +kernel
theorem dL_law_287 : decode cL_law 287 = .ok (.iload 14, 2) := by decide +kernel
theorem dL_law_289 : decode cL_law 289 = .ok (.if_icmp .ne 44, 3) := by decide +kernel
theorem dL_law_292 : decode cL_law 292 = .ok (.aload_n 1, 1) := by decide +kernel
theorem dL_law_293 : decode cL_law 293 = .ok (.invokevirtual 125, 3) := by decide +kernel
theorem dL_law_296 : decode cL_law 296 = .ok (.iload 13, 2) := by decide +kernel
theorem dL_law_298 : decode cL_law 298 = .ok (.ifCond .eq 8, 3) := by decide +kernel
theorem dL_law_301 : decode cL_law 301 = .ok (.bipush (-3), 2) := by decide +kernel
theorem dL_law_303 : decode cL_law 303 = .ok (.goto 6, 3) := by decide +kernel
theorem dL_law_306 : decode cL_law 306 = .ok (.aload_n 2, 1) := by decide +kernel
theorem dL_law_307 : decode cL_law 307 = .ok (.iconst 0, 1) := by decide +kernel
theorem dL_law_308 : decode cL_law 308 = .ok (.iaload, 1) := by decide +kernel
theorem dL_law_309 : decode cL_law 309 = .ok (.if_icmp .ne 24, 3) := by decide +kernel
theorem dL_law_312 : decode cL_law 312 = .ok (.aload_n 1, 1) := by decide +kernel
theorem dL_law_313 : decode cL_law 313 = .ok (.invokevirtual 128, 3) := by decide +kernel
theorem dL_law_316 : decode cL_law 316 = .ok (.iload 13, 2) := by decide +kernel
theorem dL_law_318 : decode cL_law 318 = .ok (.ifCond .eq 11, 3) := by decide +kernel
theorem dL_law_321 : decode cL_law 321 = .ok (.lload 11, 2) := by decide +kernel
theorem dL_law_323 : decode cL_law 323 = .ok (.invokestatic 18, 3) := by decide +kernel
theorem dL_law_326 : decode cL_law 326 = .ok (.goto 4, 3) := by decide +kernel
theorem dL_law_329 : decode cL_law 329 = .ok (.iconst 0, 1) := by decide +kernel
theorem dL_law_330 : decode cL_law 330 = .ok (.if_icmp .eq 5, 3) := by decide +kernel
theorem dL_law_333 : decode cL_law 333 = .ok (.iconst 0, 1) := by decide +kernel
theorem dL_law_334 : decode cL_law 334 = .ok (.ireturn, 1) := by decide +kernel
theorem dL_law_335 : decode cL_law 335 = .ok (.aload_n 2, 1) := by decide +kernel
theorem dL_law_336 : decode cL_law 336 = .ok (.iconst 0, 1) := by decide +kernel
theorem dL_law_337 : decode cL_law 337 = .ok (.dup2, 1) := by decide +kernel
theorem dL_law_338 : decode cL_law 338 = .ok (.iaload, 1) := by decide +kernel
theorem dL_law_339 : decode cL_law 339 = .ok (.iload 13, 2) := by decide +kernel
theorem dL_law_341 : decode cL_law 341 = .ok (.ifCond .eq 7, 3) := by decide +kernel
theorem dL_law_344 : decode cL_law 344 = .ok (.iconst 0, 1) := by decide +kernel
theorem dL_law_345 : decode cL_law 345 = .ok (.goto 4, 3) := by decide +kernel
theorem dL_law_348 : decode cL_law 348 = .ok (.iconst 1, 1) := by decide +kernel
theorem dL_law_349 : decode cL_law 349 = .ok (.iadd, 1) := by decide +kernel
theorem dL_law_350 : decode cL_law 350 = .ok (.iastore, 1) := by decide +kernel
theorem dL_law_351 : decode cL_law 351 = .ok (.goto 556, 3) := by decide +kernel
theorem dL_law_354 : decode cL_law 354 = .ok (.iload 9, 2) := by decide +kernel
theorem dL_law_356 : decode cL_law 356 = .ok (.iconst 3, 1) := by decide +kernel
theorem dL_law_357 : decode cL_law 357 = .ok (.if_icmp .ne 111, 3) := by decide +kernel
theorem dL_law_360 : decode cL_law 360 = .ok (.iload 8, 2) := by decide +kernel
theorem dL_law_362 : decode cL_law 362 = .ok (.bipush 6, 2) := by decide +kernel
theorem dL_law_364 : decode cL_law 364 = .ok (.invokestatic 70, 3) := by decide +kernel
theorem dL_law_367 : decode cL_law 367 = .ok (.istore 11, 2) := by decide +kernel
theorem dL_law_369 : decode cL_law 369 = .ok (.iload 11, 2) := by decide +kernel
theorem dL_law_371 : decode cL_law 371 = .ok (.aload_n 2, 1) := by decide +kernel
theorem dL_law_372 : decode cL_law 372 = .ok (.iconst 0, 1) := by decide +kernel
theorem dL_law_373 : decode cL_law 373 = .ok (.iaload, 1) := by decide +kernel
theorem dL_law_374 : decode cL_law 374 = .ok (.if_icmp .ge 7, 3) := by decide +kernel
theorem dL_law_377 : decode cL_law 377 = .ok (.iconst 1, 1) := by decide +kernel
theorem dL_law_378 : decode cL_law 378 = .ok (.goto 4, 3) := by decide +kernel
theorem dL_law_381 : decode cL_law 381 = .ok (.iconst 0, 1) := by decide +kernel
theorem dL_law_382 : decode cL_law 382 = .ok (.istore 12, 2) := by decide +kernel
theorem dL_law_384 : decode cL_law 384 = .ok (.iload 11, 2) := by decide +kernel
theorem dL_law_386 : decode cL_law 386 = .ok (.istore 13, 2) := by decide +kernel
theorem dL_law_388 : decode cL_law 388 = .ok (.iload 13, 2) := by decide +kernel
theorem dL_law_390 : decode cL_law 390 = .ok (.iconst 1, 1) := by decide +kernel
theorem dL_law_391 : decode cL_law 391 = .ok (.iadd, 1) := by decide +kernel
theorem dL_law_392 : decode cL_law 392 = .ok (.aload_n 2, 1) := by decide +kernel
theorem dL_law_393 : decode cL_law 393 = .ok (.iconst 0, 1) := by decide +kernel
theorem dL_law_394 : decode cL_law 394 = .ok (.iaload, 1) := by decide +kernel
theorem dL_law_395 : decode cL_law 395 = .ok (.if_icmp .ge 31, 3) := by decide +kernel
theorem dL_law_398 : decode cL_law 398 = .ok (.aload_n 3, 1) := by decide +kernel
theorem dL_law_399 : decode cL_law 399 = .ok (.iload 13, 2) := by decide +kernel
theorem dL_law_401 : decode cL_law 401 = .ok (.aload_n 3, 1) := by decide +kernel
theorem dL_law_402 : decode cL_law 402 = .ok (.iload 13, 2) := by decide +kernel
theorem dL_law_404 : decode cL_law 404 = .ok (.iconst 1, 1) := by decide +kernel
theorem dL_law_405 : decode cL_law 405 = .ok (.iadd, 1) := by decide +kernel
theorem dL_law_406 : decode cL_law 406 = .ok (.laload, 1) := by decide +kernel
theorem dL_law_407 : decode cL_law 407 = .ok (.lastore, 1) := by decide +kernel
theorem dL_law_408 : decode cL_law 408 = .ok (.aload_n 2, 1) := by decide +kernel
theorem dL_law_409 : decode cL_law 409 = .ok (.iconst 3, 1) := by decide +kernel
theorem dL_law_410 : decode cL_law 410 = .ok (.iload 13, 2) := by decide +kernel
theorem dL_law_412 : decode cL_law 412 = .ok (.iadd, 1) := by decide +kernel
theorem dL_law_413 : decode cL_law 413 = .ok (.aload_n 2, 1) := by decide +kernel
theorem dL_law_414 : decode cL_law 414 = .ok (.iconst 4, 1) := by decide +kernel
theorem dL_law_415 : decode cL_law 415 = .ok (.iload 13, 2) := by decide +kernel
theorem dL_law_417 : decode cL_law 417 = .ok (.iadd, 1) := by decide +kernel
theorem dL_law_418 : decode cL_law 418 = .ok (.iaload, 1) := by decide +kernel
theorem dL_law_419 : decode cL_law 419 = .ok (.iastore, 1) := by decide +kernel
theorem dL_law_420 : decode cL_law 420 = .ok (.iinc 13 1, 3) := by decide +kernel
theorem dL_law_423 : decode cL_law 423 = .ok (.goto (-35), 3) := by decide +kernel
theorem dL_law_426 : decode cL_law 426 = .ok (.aload_n 2, 1) := by decide +kernel
theorem dL_law_427 : decode cL_law 427 = .ok (.iconst 0, 1) := by decide +kernel
theorem dL_law_428 : decode cL_law 428 = .ok (.dup2, 1) := by decide +kernel
theorem dL_law_429 : decode cL_law 429 = .ok (.iaload, 1) := by decide +kernel
theorem dL_law_430 : decode cL_law 430 = .ok (.iload 12, 2) := by decide +kernel
theorem dL_law_432 : decode cL_law 432 = .ok (.ifCond .eq 7, 3) := by decide +kernel
theorem dL_law_435 : decode cL_law 435 = .ok (.iconst 1, 1) := by decide +kernel
theorem dL_law_436 : decode cL_law 436 = .ok (.goto 4, 3) := by decide +kernel
theorem dL_law_439 : decode cL_law 439 = .ok (.iconst 0, 1) := by decide +kernel
theorem dL_law_440 : decode cL_law 440 = .ok (.isub, 1) := by decide +kernel
theorem dL_law_441 : decode cL_law 441 = .ok (.iastore, 1) := by decide +kernel
theorem dL_law_442 : decode cL_law 442 = .ok (.aload_n 1, 1) := by decide +kernel
theorem dL_law_443 : decode cL_law 443 = .ok (.iload 11, 2) := by decide +kernel
theorem dL_law_445 : decode cL_law 445 = .ok (.invokevirtual 131, 3) := by decide +kernel
theorem dL_law_448 : decode cL_law 448 = .ok (.iload 12, 2) := by decide +kernel
theorem dL_law_450 : decode cL_law 450 = .ok (.ifCond .eq 9, 3) := by decide +kernel
theorem dL_law_453 : decode cL_law 453 = .ok (.aload_n 2, 1) := by decide +kernel
theorem dL_law_454 : decode cL_law 454 = .ok (.iconst 0, 1) := by decide +kernel
theorem dL_law_455 : decode cL_law 455 = .ok (.iaload, 1) := by decide +kernel
theorem dL_law_456 : decode cL_law 456 = .ok (.goto 4, 3) := by decide +kernel
theorem dL_law_459 : decode cL_law 459 = .ok (.iconst (-1), 1) := by decide +kernel
theorem dL_law_460 : decode cL_law 460 = .ok (.if_icmp .eq 5, 3) := by decide +kernel
theorem dL_law_463 : decode cL_law 463 = .ok (.iconst 0, 1) := by decide +kernel
theorem dL_law_464 : decode cL_law 464 = .ok (.ireturn, 1) := by decide +kernel
theorem dL_law_465 : decode cL_law 465 = .ok (.goto 442, 3) := by decide +kernel
theorem dL_law_468 : decode cL_law 468 = .ok (.iload 9, 2) := by decide +kernel
theorem dL_law_470 : decode cL_law 470 = .ok (.iconst 4, 1) := by decide +kernel
theorem dL_law_471 : decode cL_law 471 = .ok (.if_icmp .ne 33, 3) := by decide +kernel
theorem dL_law_474 : decode cL_law 474 = .ok (.iload 8, 2) := by decide +kernel
theorem dL_law_476 : decode cL_law 476 = .ok (.iconst 4, 1) := by decide +kernel
theorem dL_law_477 : decode cL_law 477 = .ok (.invokestatic 70, 3) := by decide +kernel
theorem dL_law_480 : decode cL_law 480 = .ok (.istore 11, 2) := by decide +kernel
theorem dL_law_482 : decode cL_law 482 = .ok (.aload_n 1, 1) := by decide +kernel
theorem dL_law_483 : decode cL_law 483 = .ok (.iload 11, 2) := by decide +kernel
theorem dL_law_485 : decode cL_law 485 = .ok (.invokevirtual 134, 3) := by decide +kernel
theorem dL_law_488 : decode cL_law 488 = .ok (.aload_n 2, 1) := by decide +kernel
theorem dL_law_489 : decode cL_law 489 = .ok (.iconst 1, 1) := by decide +kernel
theorem dL_law_490 : decode cL_law 490 = .ok (.iaload, 1) := by decide +kernel
theorem dL_law_491 : decode cL_law 491 = .ok (.if_icmp .eq 5, 3) := by decide +kernel
theorem dL_law_494 : decode cL_law 494 = .ok (.iconst 0, 1) := by decide +kernel
theorem dL_law_495 : decode cL_law 495 = .ok (.ireturn, 1) := by decide +kernel
theorem dL_law_496 : decode cL_law 496 = .ok (.aload_n 2, 1) := by decide +kernel
theorem dL_law_497 : decode cL_law 497 = .ok (.iconst 1, 1) := by decide +kernel
theorem dL_law_498 : decode cL_law 498 = .ok (.iload 11, 2) := by decide +kernel
theorem dL_law_500 : decode cL_law 500 = .ok (.iastore, 1) := by decide +kernel
theorem dL_law_501 : decode cL_law 501 = .ok (.goto 406, 3) := by decide +kernel
theorem dL_law_504 : decode cL_law 504 = .ok (.iload 9, 2) := by decide +kernel
theorem dL_law_506 : decode cL_law 506 = .ok (.iconst 5, 1) := by decide +kernel
theorem dL_law_507 : decode cL_law 507 = .ok (.if_icmp .ne 33, 3) := by decide +kernel
theorem dL_law_510 : decode cL_law 510 = .ok (.iload 8, 2) := by decide +kernel
theorem dL_law_512 : decode cL_law 512 = .ok (.iconst 3, 1) := by decide +kernel
theorem dL_law_513 : decode cL_law 513 = .ok (.invokestatic 70, 3) := by decide +kernel
theorem dL_law_516 : decode cL_law 516 = .ok (.istore 11, 2) := by decide +kernel
theorem dL_law_518 : decode cL_law 518 = .ok (.aload_n 1, 1) := by decide +kernel
theorem dL_law_519 : decode cL_law 519 = .ok (.iload 11, 2) := by decide +kernel
theorem dL_law_521 : decode cL_law 521 = .ok (.invokevirtual 137, 3) := by decide +kernel
theorem dL_law_524 : decode cL_law 524 = .ok (.aload_n 2, 1) := by decide +kernel
theorem dL_law_525 : decode cL_law 525 = .ok (.iconst 2, 1) := by decide +kernel
theorem dL_law_526 : decode cL_law 526 = .ok (.iaload, 1) := by decide +kernel
theorem dL_law_527 : decode cL_law 527 = .ok (.if_icmp .eq 5, 3) := by decide +kernel
theorem dL_law_530 : decode cL_law 530 = .ok (.iconst 0, 1) := by decide +kernel
theorem dL_law_531 : decode cL_law 531 = .ok (.ireturn, 1) := by decide +kernel
theorem dL_law_532 : decode cL_law 532 = .ok (.aload_n 2, 1) := by decide +kernel
theorem dL_law_533 : decode cL_law 533 = .ok (.iconst 2, 1) := by decide +kernel
theorem dL_law_534 : decode cL_law 534 = .ok (.iload 11, 2) := by decide +kernel
theorem dL_law_536 : decode cL_law 536 = .ok (.iastore, 1) := by decide +kernel
theorem dL_law_537 : decode cL_law 537 = .ok (.goto 370, 3) := by decide +kernel
theorem dL_law_540 : decode cL_law 540 = .ok (.iload 9, 2) := by decide +kernel
theorem dL_law_542 : decode cL_law 542 = .ok (.bipush 9, 2) := by decide +kernel
theorem dL_law_544 : decode cL_law 544 = .ok (.if_icmp .ge 188, 3) := by decide +kernel
theorem dL_law_547 : decode cL_law 547 = .ok (.iload 10, 2) := by decide +kernel
theorem dL_law_549 : decode cL_law 549 = .ok (.bipush 9, 2) := by decide +kernel
theorem dL_law_551 : decode cL_law 551 = .ok (.if_icmp .ne 6, 3) := by decide +kernel
theorem dL_law_554 : decode cL_law 554 = .ok (.goto 370, 3) := by decide +kernel
theorem dL_law_557 : decode cL_law 557 = .ok (.iload 8, 2) := by decide +kernel
theorem dL_law_559 : decode cL_law 559 = .ok (.iconst 4, 1) := by decide +kernel
theorem dL_law_560 : decode cL_law 560 = .ok (.invokestatic 70, 3) := by decide +kernel
theorem dL_law_563 : decode cL_law 563 = .ok (.ifCond .ne 8, 3) := by decide +kernel
theorem dL_law_566 : decode cL_law 566 = .ok (.bipush 27, 2) := by decide +kernel
theorem dL_law_568 : decode cL_law 568 = .ok (.goto 30, 3) := by decide +kernel
theorem dL_law_571 : decode cL_law 571 = .ok (.iload 8, 2) := by decide +kernel
theorem dL_law_573 : decode cL_law 573 = .ok (.iconst 2, 1) := by decide +kernel
theorem dL_law_574 : decode cL_law 574 = .ok (.ishr, 1) := by decide +kernel
theorem dL_law_575 : decode cL_law 575 = .ok (.bipush 9, 2) := by decide +kernel
theorem dL_law_577 : decode cL_law 577 = .ok (.invokestatic 70, 3) := by decide +kernel
theorem dL_law_580 : decode cL_law 580 = .ok (.ifCond .ne 8, 3) := by decide +kernel
theorem dL_law_583 : decode cL_law 583 = .ok (.bipush 28, 2) := by decide +kernel
theorem dL_law_585 : decode cL_law 585 = .ok (.goto 13, 3) := by decide +kernel
theorem dL_law_588 : decode cL_law 588 = .ok (.iconst 1, 1) := by decide +kernel
theorem dL_law_589 : decode cL_law 589 = .ok (.iload 8, 2) := by decide +kernel
theorem dL_law_591 : decode cL_law 591 = .ok (.iconst 4, 1) := by decide +kernel
theorem dL_law_592 : decode cL_law 592 = .ok (.ishr, 1) := by decide +kernel
theorem dL_law_593 : decode cL_law 593 = .ok (.iconst 2, 1) := by decide +kernel
theorem dL_law_594 : decode cL_law 594 = .ok (.invokestatic 70, 3) := by decide +kernel
theorem dL_law_597 : decode cL_law 597 = .ok (.iadd, 1) := by decide +kernel
theorem dL_law_598 : decode cL_law 598 = .ok (.istore 11, 2) := by decide +kernel
theorem dL_law_600 : decode cL_law 600 = .ok (.iload 11, 2) := by decide +kernel
theorem dL_law_602 : decode cL_law 602 = .ok (.bipush 27, 2) := by decide +kernel
theorem dL_law_604 : decode cL_law 604 = .ok (.if_icmp .ne 22, 3) := by decide +kernel
theorem dL_law_607 : decode cL_law 607 = .ok (.iload 10, 2) := by decide +kernel
theorem dL_law_609 : decode cL_law 609 = .ok (.ifCond .le 21, 3) := by decide +kernel
theorem dL_law_612 : decode cL_law 612 = .ok (.lload 4, 2) := by decide +kernel
theorem dL_law_614 : decode cL_law 614 = .ok (.iload 10, 2) := by decide +kernel
theorem dL_law_616 : decode cL_law 616 = .ok (.iconst 1, 1) := by decide +kernel
theorem dL_law_617 : decode cL_law 617 = .ok (.isub, 1) := by decide +kernel
theorem dL_law_618 : decode cL_law 618 = .ok (.invokestatic 12, 3) := by decide +kernel
theorem dL_law_621 : decode cL_law 621 = .ok (.bipush 27, 2) := by decide +kernel
theorem dL_law_623 : decode cL_law 623 = .ok (.if_icmp .eq 7, 3) := by decide +kernel
theorem dL_law_626 : decode cL_law 626 = .ok (.iconst 1, 1) := by decide +kernel
theorem dL_law_627 : decode cL_law 627 = .ok (.goto 4, 3) := by decide +kernel
theorem dL_law_630 : decode cL_law 630 = .ok (.iconst 0, 1) := by decide +kernel
theorem dL_law_631 : decode cL_law 631 = .ok (.istore 12, 2) := by decide +kernel
theorem dL_law_633 : decode cL_law 633 = .ok (.lload 4, 2) := by decide +kernel
theorem dL_law_635 : decode cL_law 635 = .ok (.iload 12, 2) := by decide +kernel
theorem dL_law_637 : decode cL_law 637 = .ok (.ifCond .eq 14, 3) := by decide +kernel
theorem dL_law_640 : decode cL_law 640 = .ok (.iload 11, 2) := by decide +kernel
theorem dL_law_642 : decode cL_law 642 = .ok (.i2l, 1) := by decide +kernel
theorem dL_law_643 : decode cL_law 643 = .ok (.iconst 5, 1) := by decide +kernel
theorem dL_law_644 : decode cL_law 644 = .ok (.iload 10, 2) := by decide +kernel
theorem dL_law_646 : decode cL_law 646 = .ok (.imul, 1) := by decide +kernel
theorem dL_law_647 : decode cL_law 647 = .ok (.lshl, 1) := by decide +kernel
theorem dL_law_648 : decode cL_law 648 = .ok (.goto 4, 3) := by decide +kernel
theorem dL_law_651 : decode cL_law 651 = .ok (.lconst 0, 1) := by decide +kernel
theorem dL_law_652 : decode cL_law 652 = .ok (.lor, 1) := by decide +kernel
theorem dL_law_653 : decode cL_law 653 = .ok (.lstore 4, 2) := by decide +kernel
theorem dL_law_655 : decode cL_law 655 = .ok (.iconst 0, 1) := by decide +kernel
theorem dL_law_656 : decode cL_law 656 = .ok (.istore 13, 2) := by decide +kernel
theorem dL_law_658 : decode cL_law 658 = .ok (.iconst 0, 1) := by decide +kernel
theorem dL_law_659 : decode cL_law 659 = .ok (.istore 14, 2) := by decide +kernel
theorem dL_law_661 : decode cL_law 661 = .ok (.iload 14, 2) := by decide +kernel
theorem dL_law_663 : decode cL_law 663 = .ok (.aload_n 2, 1) := by decide +kernel
theorem dL_law_664 : decode cL_law 664 = .ok (.iconst 0, 1) := by decide +kernel
theorem dL_law_665 : decode cL_law 665 = .ok (.iaload, 1) := by decide +kernel
theorem dL_law_666 : decode cL_law 666 = .ok (.if_icmp .ge 37, 3) := by decide +kernel
theorem dL_law_669 : decode cL_law 669 = .ok (.iload 13, 2) := by decide +kernel
theorem dL_law_671 : decode cL_law 671 = .ok (.aload_n 3, 1) := by decide +kernel
theorem dL_law_672 : decode cL_law 672 = .ok (.iload 14, 2) := by decide +kernel
theorem dL_law_674 : decode cL_law 674 = .ok (.laload, 1) := by decide +kernel
theorem dL_law_675 : decode cL_law 675 = .ok (.lload 4, 2) := by decide +kernel
theorem dL_law_677 : decode cL_law 677 = .ok (.invokestatic 48, 3) := by decide +kernel
theorem dL_law_680 : decode cL_law 680 = .ok (.aload_n 2, 1) := by decide +kernel
theorem dL_law_681 : decode cL_law 681 = .ok (.iconst 1, 1) := by decide +kernel
theorem dL_law_682 : decode cL_law 682 = .ok (.iaload, 1) := by decide +kernel
theorem dL_law_683 : decode cL_law 683 = .ok (.invokestatic 38, 3) := by decide +kernel
theorem dL_law_686 : decode cL_law 686 = .ok (.ifCond .ge 7, 3) := by decide +kernel
theorem dL_law_689 : decode cL_law 689 = .ok (.iconst 0, 1) := by decide +kernel
theorem dL_law_690 : decode cL_law 690 = .ok (.goto 4, 3) := by decide +kernel
theorem dL_law_693 : decode cL_law 693 = .ok (.iconst 1, 1) := by decide +kernel
theorem dL_law_694 : decode cL_law 694 = .ok (.iadd, 1) := by decide +kernel
theorem dL_law_695 : decode cL_law 695 = .ok (.istore 13, 2) := by decide +kernel
theorem dL_law_697 : decode cL_law 697 = .ok (.iinc 14 1, 3) := by decide +kernel
theorem dL_law_700 : decode cL_law 700 = .ok (.goto (-39), 3) := by decide +kernel
theorem dL_law_703 : decode cL_law 703 = .ok (.aload_n 1, 1) := by decide +kernel
theorem dL_law_704 : decode cL_law 704 = .ok (.iload 11, 2) := by decide +kernel
theorem dL_law_706 : decode cL_law 706 = .ok (.invokestatic 30, 3) := by decide +kernel
theorem dL_law_709 : decode cL_law 709 = .ok (.invokevirtual 140, 3) := by decide +kernel
theorem dL_law_712 : decode cL_law 712 = .ok (.iload 12, 2) := by decide +kernel
theorem dL_law_714 : decode cL_law 714 = .ok (.ifCond .eq 8, 3) := by decide +kernel
theorem dL_law_717 : decode cL_law 717 = .ok (.iload 13, 2) := by decide +kernel
theorem dL_law_719 : decode cL_law 719 = .ok (.goto 5, 3) := by decide +kernel
theorem dL_law_722 : decode cL_law 722 = .ok (.bipush (-3), 2) := by decide +kernel
theorem dL_law_724 : decode cL_law 724 = .ok (.if_icmp .eq 5, 3) := by decide +kernel
theorem dL_law_727 : decode cL_law 727 = .ok (.iconst 0, 1) := by decide +kernel
theorem dL_law_728 : decode cL_law 728 = .ok (.ireturn, 1) := by decide +kernel
theorem dL_law_729 : decode cL_law 729 = .ok (.goto 178, 3) := by decide +kernel
theorem dL_law_732 : decode cL_law 732 = .ok (.iload 9, 2) := by decide +kernel
theorem dL_law_734 : decode cL_law 734 = .ok (.bipush 9, 2) := by decide +kernel
theorem dL_law_736 : decode cL_law 736 = .ok (.if_icmp .ne 112, 3) := by decide +kernel
theorem dL_law_739 : decode cL_law 739 = .ok (.iload 10, 2) := by decide +kernel
theorem dL_law_741 : decode cL_law 741 = .ok (.ifCond .le 7, 3) := by decide +kernel
theorem dL_law_744 : decode cL_law 744 = .ok (.iconst 1, 1) := by decide +kernel
theorem dL_law_745 : decode cL_law 745 = .ok (.goto 4, 3) := by decide +kernel
theorem dL_law_748 : decode cL_law 748 = .ok (.iconst 0, 1) := by decide +kernel
theorem dL_law_749 : decode cL_law 749 = .ok (.istore 11, 2) := by decide +kernel
theorem dL_law_751 : decode cL_law 751 = .ok (.iload 11, 2) := by decide +kernel
theorem dL_law_753 : decode cL_law 753 = .ok (.ifCond .eq 19, 3) := by decide +kernel
theorem dL_law_756 : decode cL_law 756 = .ok (.lload 4, 2) := by decide +kernel
theorem dL_law_758 : decode cL_law 758 = .ok (.lconst 1, 1) := by decide +kernel
theorem dL_law_759 : decode cL_law 759 = .ok (.iconst 5, 1) := by decide +kernel
theorem dL_law_760 : decode cL_law 760 = .ok (.iload 10, 2) := by decide +kernel
theorem dL_law_762 : decode cL_law 762 = .ok (.imul, 1) := by decide +kernel
theorem dL_law_763 : decode cL_law 763 = .ok (.iconst 5, 1) := by decide +kernel
theorem dL_law_764 : decode cL_law 764 = .ok (.isub, 1) := by decide +kernel
theorem dL_law_765 : decode cL_law 765 = .ok (.lshl, 1) := by decide +kernel
theorem dL_law_766 : decode cL_law 766 = .ok (.lconst 1, 1) := by decide +kernel
theorem dL_law_767 : decode cL_law 767 = .ok (.lsub, 1) := by decide +kernel
theorem dL_law_768 : decode cL_law 768 = .ok (.land, 1) := by decide +kernel
theorem dL_law_769 : decode cL_law 769 = .ok (.goto 5, 3) := by decide +kernel
theorem dL_law_772 : decode cL_law 772 = .ok (.lload 4, 2) := by decide +kernel
theorem dL_law_774 : decode cL_law 774 = .ok (.lstore 4, 2) := by decide +kernel
theorem dL_law_776 : decode cL_law 776 = .ok (.iconst 0, 1) := by decide +kernel
theorem dL_law_777 : decode cL_law 777 = .ok (.istore 12, 2) := by decide +kernel
theorem dL_law_779 : decode cL_law 779 = .ok (.iconst 0, 1) := by decide +kernel
theorem dL_law_780 : decode cL_law 780 = .ok (.istore 13, 2) := by decide +kernel
theorem dL_law_782 : decode cL_law 782 = .ok (.iload 13, 2) := by decide +kernel
theorem dL_law_784 : decode cL_law 784 = .ok (.aload_n 2, 1) := by decide +kernel
theorem dL_law_785 : decode cL_law 785 = .ok (.iconst 0, 1) := by decide +kernel
theorem dL_law_786 : decode cL_law 786 = .ok (.iaload, 1) := by decide +kernel
theorem dL_law_787 : decode cL_law 787 = .ok (.if_icmp .ge 37, 3) := by decide +kernel
theorem dL_law_790 : decode cL_law 790 = .ok (.iload 12, 2) := by decide +kernel
theorem dL_law_792 : decode cL_law 792 = .ok (.aload_n 3, 1) := by decide +kernel
theorem dL_law_793 : decode cL_law 793 = .ok (.iload 13, 2) := by decide +kernel
theorem dL_law_795 : decode cL_law 795 = .ok (.laload, 1) := by decide +kernel
theorem dL_law_796 : decode cL_law 796 = .ok (.lload 4, 2) := by decide +kernel
theorem dL_law_798 : decode cL_law 798 = .ok (.invokestatic 48, 3) := by decide +kernel
theorem dL_law_801 : decode cL_law 801 = .ok (.aload_n 2, 1) := by decide +kernel
theorem dL_law_802 : decode cL_law 802 = .ok (.iconst 1, 1) := by decide +kernel
theorem dL_law_803 : decode cL_law 803 = .ok (.iaload, 1) := by decide +kernel
theorem dL_law_804 : decode cL_law 804 = .ok (.invokestatic 38, 3) := by decide +kernel
theorem dL_law_807 : decode cL_law 807 = .ok (.ifCond .ge 7, 3) := by decide +kernel
theorem dL_law_810 : decode cL_law 810 = .ok (.iconst 0, 1) := by decide +kernel
theorem dL_law_811 : decode cL_law 811 = .ok (.goto 4, 3) := by decide +kernel
theorem dL_law_814 : decode cL_law 814 = .ok (.iconst 1, 1) := by decide +kernel
theorem dL_law_815 : decode cL_law 815 = .ok (.iadd, 1) := by decide +kernel
theorem dL_law_816 : decode cL_law 816 = .ok (.istore 12, 2) := by decide +kernel
theorem dL_law_818 : decode cL_law 818 = .ok (.iinc 13 1, 3) := by decide +kernel
theorem dL_law_821 : decode cL_law 821 = .ok (.goto (-39), 3) := by decide +kernel
theorem dL_law_824 : decode cL_law 824 = .ok (.aload_n 1, 1) := by decide +kernel
theorem dL_law_825 : decode cL_law 825 = .ok (.invokevirtual 143, 3) := by decide +kernel
theorem dL_law_828 : decode cL_law 828 = .ok (.iload 11, 2) := by decide +kernel
theorem dL_law_830 : decode cL_law 830 = .ok (.ifCond .eq 8, 3) := by decide +kernel
theorem dL_law_833 : decode cL_law 833 = .ok (.iload 12, 2) := by decide +kernel
theorem dL_law_835 : decode cL_law 835 = .ok (.goto 5, 3) := by decide +kernel
theorem dL_law_838 : decode cL_law 838 = .ok (.bipush (-3), 2) := by decide +kernel
theorem dL_law_840 : decode cL_law 840 = .ok (.if_icmp .eq 5, 3) := by decide +kernel
theorem dL_law_843 : decode cL_law 843 = .ok (.iconst 0, 1) := by decide +kernel
theorem dL_law_844 : decode cL_law 844 = .ok (.ireturn, 1) := by decide +kernel
theorem dL_law_845 : decode cL_law 845 = .ok (.goto 62, 3) := by decide +kernel
theorem dL_law_848 : decode cL_law 848 = .ok (.iload 8, 2) := by decide +kernel
theorem dL_law_850 : decode cL_law 850 = .ok (.iconst 3, 1) := by decide +kernel
theorem dL_law_851 : decode cL_law 851 = .ok (.invokestatic 70, 3) := by decide +kernel
theorem dL_law_854 : decode cL_law 854 = .ok (.istore 11, 2) := by decide +kernel
theorem dL_law_856 : decode cL_law 856 = .ok (.iload 11, 2) := by decide +kernel
theorem dL_law_858 : decode cL_law 858 = .ok (.lload 4, 2) := by decide +kernel
theorem dL_law_860 : decode cL_law 860 = .ok (.aload_n 2, 1) := by decide +kernel
theorem dL_law_861 : decode cL_law 861 = .ok (.aload_n 3, 1) := by decide +kernel
theorem dL_law_862 : decode cL_law 862 = .ok (.invokestatic 75, 3) := by decide +kernel
theorem dL_law_865 : decode cL_law 865 = .ok (.istore 12, 2) := by decide +kernel
theorem dL_law_867 : decode cL_law 867 = .ok (.aload_n 1, 1) := by decide +kernel
theorem dL_law_868 : decode cL_law 868 = .ok (.iload 11, 2) := by decide +kernel
theorem dL_law_870 : decode cL_law 870 = .ok (.invokevirtual 146, 3) := by decide +kernel
theorem dL_law_873 : decode cL_law 873 = .ok (.iload 12, 2) := by decide +kernel
theorem dL_law_875 : decode cL_law 875 = .ok (.ifCond .ge 7, 3) := by decide +kernel
theorem dL_law_878 : decode cL_law 878 = .ok (.iconst (-1), 1) := by decide +kernel
theorem dL_law_879 : decode cL_law 879 = .ok (.goto 5, 3) := by decide +kernel
theorem dL_law_882 : decode cL_law 882 = .ok (.iload 12, 2) := by decide +kernel
theorem dL_law_884 : decode cL_law 884 = .ok (.if_icmp .eq 5, 3) := by decide +kernel
theorem dL_law_887 : decode cL_law 887 = .ok (.iconst 0, 1) := by decide +kernel
theorem dL_law_888 : decode cL_law 888 = .ok (.ireturn, 1) := by decide +kernel
theorem dL_law_889 : decode cL_law 889 = .ok (.iload 12, 2) := by decide +kernel
theorem dL_law_891 : decode cL_law 891 = .ok (.ifCond .lt 16, 3) := by decide +kernel
theorem dL_law_894 : decode cL_law 894 = .ok (.aload_n 2, 1) := by decide +kernel
theorem dL_law_895 : decode cL_law 895 = .ok (.iconst 3, 1) := by decide +kernel
theorem dL_law_896 : decode cL_law 896 = .ok (.iload 12, 2) := by decide +kernel
theorem dL_law_898 : decode cL_law 898 = .ok (.iadd, 1) := by decide +kernel
theorem dL_law_899 : decode cL_law 899 = .ok (.dup2, 1) := by decide +kernel
theorem dL_law_900 : decode cL_law 900 = .ok (.iaload, 1) := by decide +kernel
theorem dL_law_901 : decode cL_law 901 = .ok (.iconst 1, 1) := by decide +kernel
theorem dL_law_902 : decode cL_law 902 = .ok (.iadd, 1) := by decide +kernel
theorem dL_law_903 : decode cL_law 903 = .ok (.iastore, 1) := by decide +kernel
theorem dL_law_904 : decode cL_law 904 = .ok (.lconst 0, 1) := by decide +kernel
theorem dL_law_905 : decode cL_law 905 = .ok (.lstore 4, 2) := by decide +kernel
theorem dL_law_907 : decode cL_law 907 = .ok (.aload_n 1, 1) := by decide +kernel
theorem dL_law_908 : decode cL_law 908 = .ok (.iload 8, 2) := by decide +kernel
theorem dL_law_910 : decode cL_law 910 = .ok (.iconst 3, 1) := by decide +kernel
theorem dL_law_911 : decode cL_law 911 = .ok (.ishr, 1) := by decide +kernel
theorem dL_law_912 : decode cL_law 912 = .ok (.lload 4, 2) := by decide +kernel
theorem dL_law_914 : decode cL_law 914 = .ok (.aload_n 2, 1) := by decide +kernel
theorem dL_law_915 : decode cL_law 915 = .ok (.aload_n 3, 1) := by decide +kernel
theorem dL_law_916 : decode cL_law 916 = .ok (.invokestatic 149, 3) := by decide +kernel
theorem dL_law_919 : decode cL_law 919 = .ok (.ifCond .ne 5, 3) := by decide +kernel
theorem dL_law_922 : decode cL_law 922 = .ok (.iconst 0, 1) := by decide +kernel
theorem dL_law_923 : decode cL_law 923 = .ok (.ireturn, 1) := by decide +kernel
theorem dL_law_924 : decode cL_law 924 = .ok (.iinc 6 1, 3) := by decide +kernel
theorem dL_law_927 : decode cL_law 927 = .ok (.goto (-903), 3) := by decide +kernel
theorem dL_law_930 : decode cL_law 930 = .ok (.iconst 1, 1) := by decide +kernel
theorem dL_law_931 : decode cL_law 931 = .ok (.ireturn, 1) := by decide +kernel
