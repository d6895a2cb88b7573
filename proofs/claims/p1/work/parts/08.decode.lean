theorem dJ7_fill_d0a16_0 : decode cJ7_fill_d0a16 0 = .ok (.iconst 0, 1) := by decide +kernel
theorem dJ7_fill_d0a16_1 : decode cJ7_fill_d0a16 1 = .ok (.istore_n 3, 1) := by decide +kernel
theorem dJ7_fill_d0a16_2 : decode cJ7_fill_d0a16 2 = .ok (.aload_n 0, 1) := by decide +kernel
theorem dJ7_fill_d0a16_3 : decode cJ7_fill_d0a16 3 = .ok (.arraylength, 1) := by decide +kernel
theorem dJ7_fill_d0a16_4 : decode cJ7_fill_d0a16 4 = .ok (.istore 4, 2) := by decide +kernel
theorem dJ7_fill_d0a16_6 : decode cJ7_fill_d0a16 6 = .ok (.iload_n 3, 1) := by decide +kernel
theorem dJ7_fill_d0a16_7 : decode cJ7_fill_d0a16 7 = .ok (.iload 4, 2) := by decide +kernel
theorem dJ7_fill_d0a16_9 : decode cJ7_fill_d0a16 9 = .ok (.if_icmp .ge 13, 3) := by decide +kernel
theorem dJ7_fill_d0a16_12 : decode cJ7_fill_d0a16 12 = .ok (.aload_n 0, 1) := by decide +kernel
theorem dJ7_fill_d0a16_13 : decode cJ7_fill_d0a16 13 = .ok (.iload_n 3, 1) := by decide +kernel
theorem dJ7_fill_d0a16_14 : decode cJ7_fill_d0a16 14 = .ok (.lload_n 1, 1) := by decide +kernel
theorem dJ7_fill_d0a16_15 : decode cJ7_fill_d0a16 15 = .ok (.lastore, 1) := by decide +kernel
theorem dJ7_fill_d0a16_16 : decode cJ7_fill_d0a16 16 = .ok (.iinc 3 1, 3) := by decide +kernel
theorem dJ7_fill_d0a16_19 : decode cJ7_fill_d0a16 19 = .ok (.goto (-13), 3) := by decide +kernel
theorem dJ7_fill_d0a16_22 : decode cJ7_fill_d0a16 22 = .ok (.return_, 1) := by decide +kernel
theorem dJx35411_hasNext_aae02_0 : decode cJx35411_hasNext_aae02 0 = .ok (.aload_n 0, 1) := by decide +kernel
theorem dJx35411_hasNext_aae02_1 : decode cJx35411_hasNext_aae02 1 = .ok (.getfield 25, 3) := by decide +kernel
theorem dJx35411_hasNext_aae02_4 : decode cJx35411_hasNext_aae02 4 = .ok (.aload_n 0, 1) := by decide +kernel
theorem dJx35411_hasNext_aae02_5 : decode cJx35411_hasNext_aae02 5 = .ok (.getfield 1, 3) := by decide +kernel
theorem dJx35411_hasNext_aae02_8 : decode cJx35411_hasNext_aae02 8 = .ok (.getfield 28, 3) := by decide +kernel
theorem dJx35411_hasNext_aae02_11 : decode cJx35411_hasNext_aae02 11 = .ok (.if_icmp .eq 7, 3) := by decide +kernel
theorem dJx35411_hasNext_aae02_18 : decode cJx35411_hasNext_aae02 18 = .ok (.iconst 0, 1) := by decide +kernel
theorem dJx35411_hasNext_aae02_19 : decode cJx35411_hasNext_aae02 19 = .ok (.ireturn, 1) := by decide +kernel
theorem dJx35411_init_45d68_0 : decode cJx35411_init_45d68 0 = .ok (.aload_n 0, 1) := by decide +kernel
theorem dJx35411_init_45d68_1 : decode cJx35411_init_45d68 1 = .ok (.aload_n 1, 1) := by decide +kernel
theorem dJx35411_init_45d68_2 : decode cJx35411_init_45d68 2 = .ok (.putfield 1, 3) := by decide +kernel
theorem dJx35411_init_45d68_5 : decode cJx35411_init_45d68 5 = .ok (.aload_n 0, 1) := by decide +kernel
theorem dJx35411_init_45d68_6 : decode cJx35411_init_45d68 6 = .ok (.invokespecial 7, 3) := by decide +kernel
theorem dJx35411_init_45d68_9 : decode cJx35411_init_45d68 9 = .ok (.aload_n 0, 1) := by decide +kernel
theorem dJx35411_init_45d68_10 : decode cJx35411_init_45d68 10 = .ok (.iconst (-1), 1) := by decide +kernel
theorem dJx35411_init_45d68_11 : decode cJx35411_init_45d68 11 = .ok (.putfield 13, 3) := by decide +kernel
theorem dJx35411_init_45d68_14 : decode cJx35411_init_45d68 14 = .ok (.aload_n 0, 1) := by decide +kernel
theorem dJx35411_init_45d68_15 : decode cJx35411_init_45d68 15 = .ok (.aload_n 0, 1) := by decide +kernel
theorem dJx35411_init_45d68_16 : decode cJx35411_init_45d68 16 = .ok (.getfield 1, 3) := by decide +kernel
theorem dJx35411_init_45d68_19 : decode cJx35411_init_45d68 19 = .ok (.getfield 17, 3) := by decide +kernel
theorem dJx35411_init_45d68_22 : decode cJx35411_init_45d68 22 = .ok (.putfield 22, 3) := by decide +kernel
theorem dJx35411_init_45d68_25 : decode cJx35411_init_45d68 25 = .ok (.return_, 1) := by decide +kernel
theorem dJx4a65c_add_72be8_0 : decode cJx4a65c_add_72be8 0 = .ok (.iload_n 3, 1) := by decide +kernel
theorem dJx4a65c_add_72be8_1 : decode cJx4a65c_add_72be8 1 = .ok (.aload_n 2, 1) := by decide +kernel
theorem dJx4a65c_add_72be8_2 : decode cJx4a65c_add_72be8 2 = .ok (.arraylength, 1) := by decide +kernel
theorem dJx4a65c_add_72be8_3 : decode cJx4a65c_add_72be8 3 = .ok (.if_icmp .ne 8, 3) := by decide +kernel
theorem dJx4a65c_add_72be8_6 : decode cJx4a65c_add_72be8 6 = .ok (.aload_n 0, 1) := by decide +kernel
theorem dJx4a65c_add_72be8_7 : decode cJx4a65c_add_72be8 7 = .ok (.invokevirtual 129, 3) := by decide +kernel
theorem dJx4a65c_add_72be8_10 : decode cJx4a65c_add_72be8 10 = .ok (.astore_n 2, 1) := by decide +kernel
theorem dJx4a65c_add_72be8_11 : decode cJx4a65c_add_72be8 11 = .ok (.aload_n 2, 1) := by decide +kernel
theorem dJx4a65c_add_72be8_12 : decode cJx4a65c_add_72be8 12 = .ok (.iload_n 3, 1) := by decide +kernel
theorem dJx4a65c_add_72be8_13 : decode cJx4a65c_add_72be8 13 = .ok (.aload_n 1, 1) := by decide +kernel
theorem dJx4a65c_add_72be8_14 : decode cJx4a65c_add_72be8 14 = .ok (.aastore, 1) := by decide +kernel
theorem dJx4a65c_add_72be8_15 : decode cJx4a65c_add_72be8 15 = .ok (.aload_n 0, 1) := by decide +kernel
theorem dJx4a65c_add_72be8_16 : decode cJx4a65c_add_72be8 16 = .ok (.iload_n 3, 1) := by decide +kernel
theorem dJx4a65c_add_72be8_17 : decode cJx4a65c_add_72be8 17 = .ok (.iconst 1, 1) := by decide +kernel
theorem dJx4a65c_add_72be8_18 : decode cJx4a65c_add_72be8 18 = .ok (.iadd, 1) := by decide +kernel
theorem dJx4a65c_add_72be8_19 : decode cJx4a65c_add_72be8 19 = .ok (.putfield 48, 3) := by decide +kernel
theorem dJx4a65c_add_72be8_22 : decode cJx4a65c_add_72be8 22 = .ok (.return_, 1) := by decide +kernel
theorem dJx4a65c_add_9ea2d_0 : decode cJx4a65c_add_9ea2d 0 = .ok (.aload_n 0, 1) := by decide +kernel
theorem dJx4a65c_add_9ea2d_1 : decode cJx4a65c_add_9ea2d 1 = .ok (.dup, 1) := by decide +kernel
theorem dJx4a65c_add_9ea2d_2 : decode cJx4a65c_add_9ea2d 2 = .ok (.getfield 63, 3) := by decide +kernel
theorem dJx4a65c_add_9ea2d_5 : decode cJx4a65c_add_9ea2d 5 = .ok (.iconst 1, 1) := by decide +kernel
theorem dJx4a65c_add_9ea2d_6 : decode cJx4a65c_add_9ea2d 6 = .ok (.iadd, 1) := by decide +kernel
theorem dJx4a65c_add_9ea2d_7 : decode cJx4a65c_add_9ea2d 7 = .ok (.putfield 63, 3) := by decide +kernel
theorem dJx4a65c_add_9ea2d_10 : decode cJx4a65c_add_9ea2d 10 = .ok (.aload_n 0, 1) := by decide +kernel
theorem dJx4a65c_add_9ea2d_11 : decode cJx4a65c_add_9ea2d 11 = .ok (.aload_n 1, 1) := by decide +kernel
theorem dJx4a65c_add_9ea2d_12 : decode cJx4a65c_add_9ea2d 12 = .ok (.aload_n 0, 1) := by decide +kernel
theorem dJx4a65c_add_9ea2d_13 : decode cJx4a65c_add_9ea2d 13 = .ok (.getfield 9, 3) := by decide +kernel
theorem dJx4a65c_add_9ea2d_16 : decode cJx4a65c_add_9ea2d 16 = .ok (.aload_n 0, 1) := by decide +kernel
theorem dJx4a65c_add_9ea2d_17 : decode cJx4a65c_add_9ea2d 17 = .ok (.getfield 48, 3) := by decide +kernel
theorem dJx4a65c_add_9ea2d_20 : decode cJx4a65c_add_9ea2d 20 = .ok (.invokevirtual 131, 3) := by decide +kernel
theorem dJx4a65c_add_9ea2d_23 : decode cJx4a65c_add_9ea2d 23 = .ok (.iconst 1, 1) := by decide +kernel
theorem dJx4a65c_add_9ea2d_24 : decode cJx4a65c_add_9ea2d 24 = .ok (.ireturn, 1) := by decide +kernel
theorem dJx4a65c_grow_92f84_0 : decode cJx4a65c_grow_92f84 0 = .ok (.aload_n 0, 1) := by decide +kernel
theorem dJx4a65c_grow_92f84_1 : decode cJx4a65c_grow_92f84 1 = .ok (.getfield 9, 3) := by decide +kernel
theorem dJx4a65c_grow_92f84_4 : decode cJx4a65c_grow_92f84 4 = .ok (.arraylength, 1) := by decide +kernel
theorem dJx4a65c_grow_92f84_5 : decode cJx4a65c_grow_92f84 5 = .ok (.istore_n 2, 1) := by decide +kernel
theorem dJx4a65c_grow_92f84_6 : decode cJx4a65c_grow_92f84 6 = .ok (.iload_n 2, 1) := by decide +kernel
theorem dJx4a65c_grow_92f84_7 : decode cJx4a65c_grow_92f84 7 = .ok (.ifCond .gt 13, 3) := by decide +kernel
theorem dJx4a65c_grow_92f84_10 : decode cJx4a65c_grow_92f84 10 = .ok (.aload_n 0, 1) := by decide +kernel
theorem dJx4a65c_grow_92f84_11 : decode cJx4a65c_grow_92f84 11 = .ok (.getfield 9, 3) := by decide +kernel
theorem dJx4a65c_grow_92f84_14 : decode cJx4a65c_grow_92f84 14 = .ok (.getstatic 39, 3) := by decide +kernel
theorem dJx4a65c_grow_92f84_17 : decode cJx4a65c_grow_92f84 17 = .ok (.if_acmp .eq 28, 3) := by decide +kernel
theorem dJx4a65c_grow_92f84_45 : decode cJx4a65c_grow_92f84 45 = .ok (.aload_n 0, 1) := by decide +kernel
theorem dJx4a65c_grow_92f84_46 : decode cJx4a65c_grow_92f84 46 = .ok (.bipush 10, 2) := by decide +kernel
theorem dJx4a65c_grow_92f84_48 : decode cJx4a65c_grow_92f84 48 = .ok (.iload_n 1, 1) := by decide +kernel
theorem dJx4a65c_grow_92f84_49 : decode cJx4a65c_grow_92f84 49 = .ok (.invokestatic 79, 3) := by decide +kernel
theorem dJx4a65c_grow_92f84_52 : decode cJx4a65c_grow_92f84 52 = .ok (.anewarray 7, 3) := by decide +kernel
theorem dJx4a65c_grow_92f84_55 : decode cJx4a65c_grow_92f84 55 = .ok (.dup_x1, 1) := by decide +kernel
theorem dJx4a65c_grow_92f84_56 : decode cJx4a65c_grow_92f84 56 = .ok (.putfield 9, 3) := by decide +kernel
theorem dJx4a65c_grow_92f84_59 : decode cJx4a65c_grow_92f84 59 = .ok (.areturn, 1) := by decide +kernel
theorem dJx4a65c_grow_d5877_0 : decode cJx4a65c_grow_d5877 0 = .ok (.aload_n 0, 1) := by decide +kernel
theorem dJx4a65c_grow_d5877_1 : decode cJx4a65c_grow_d5877 1 = .ok (.aload_n 0, 1) := by decide +kernel
theorem dJx4a65c_grow_d5877_2 : decode cJx4a65c_grow_d5877 2 = .ok (.getfield 48, 3) := by decide +kernel
theorem dJx4a65c_grow_d5877_5 : decode cJx4a65c_grow_d5877 5 = .ok (.iconst 1, 1) := by decide +kernel
theorem dJx4a65c_grow_d5877_6 : decode cJx4a65c_grow_d5877 6 = .ok (.iadd, 1) := by decide +kernel
theorem dJx4a65c_grow_d5877_7 : decode cJx4a65c_grow_d5877 7 = .ok (.invokevirtual 69, 3) := by decide +kernel
theorem dJx4a65c_grow_d5877_10 : decode cJx4a65c_grow_d5877 10 = .ok (.areturn, 1) := by decide +kernel
theorem dJx4a65c_init_da8c8_0 : decode cJx4a65c_init_da8c8 0 = .ok (.aload_n 0, 1) := by decide +kernel
theorem dJx4a65c_init_da8c8_1 : decode cJx4a65c_init_da8c8 1 = .ok (.invokespecial 1, 3) := by decide +kernel
theorem dJx4a65c_init_da8c8_4 : decode cJx4a65c_init_da8c8 4 = .ok (.aload_n 0, 1) := by decide +kernel
theorem dJx4a65c_init_da8c8_5 : decode cJx4a65c_init_da8c8 5 = .ok (.getstatic 39, 3) := by decide +kernel
theorem dJx4a65c_init_da8c8_8 : decode cJx4a65c_init_da8c8 8 = .ok (.putfield 9, 3) := by decide +kernel
theorem dJx4a65c_init_da8c8_11 : decode cJx4a65c_init_da8c8 11 = .ok (.return_, 1) := by decide +kernel
theorem dJx4a65c_isEmpty_aae02_0 : decode cJx4a65c_isEmpty_aae02 0 = .ok (.aload_n 0, 1) := by decide +kernel
theorem dJx4a65c_isEmpty_aae02_1 : decode cJx4a65c_isEmpty_aae02 1 = .ok (.getfield 48, 3) := by decide +kernel
theorem dJx4a65c_isEmpty_aae02_4 : decode cJx4a65c_isEmpty_aae02 4 = .ok (.ifCond .ne 7, 3) := by decide +kernel
theorem dJx4a65c_isEmpty_aae02_7 : decode cJx4a65c_isEmpty_aae02 7 = .ok (.iconst 1, 1) := by decide +kernel
theorem dJx4a65c_isEmpty_aae02_8 : decode cJx4a65c_isEmpty_aae02 8 = .ok (.goto 4, 3) := by decide +kernel
theorem dJx4a65c_isEmpty_aae02_12 : decode cJx4a65c_isEmpty_aae02 12 = .ok (.ireturn, 1) := by decide +kernel
theorem dJx4a65c_iterator_32c93_0 : decode cJx4a65c_iterator_32c93 0 = .ok (.new 267, 3) := by decide +kernel
theorem dJx4a65c_iterator_32c93_3 : decode cJx4a65c_iterator_32c93 3 = .ok (.dup, 1) := by decide +kernel
theorem dJx4a65c_iterator_32c93_4 : decode cJx4a65c_iterator_32c93 4 = .ok (.aload_n 0, 1) := by decide +kernel
theorem dJx4a65c_iterator_32c93_5 : decode cJx4a65c_iterator_32c93 5 = .ok (.invokespecial 269, 3) := by decide +kernel
theorem dJx4a65c_iterator_32c93_8 : decode cJx4a65c_iterator_32c93 8 = .ok (.areturn, 1) := by decide +kernel
theorem dJx4a65c_size_8abf5_0 : decode cJx4a65c_size_8abf5 0 = .ok (.aload_n 0, 1) := by decide +kernel
theorem dJx4a65c_size_8abf5_1 : decode cJx4a65c_size_8abf5 1 = .ok (.getfield 48, 3) := by decide +kernel
theorem dJx4a65c_size_8abf5_4 : decode cJx4a65c_size_8abf5 4 = .ok (.ireturn, 1) := by decide +kernel
theorem dJxa1e45_init_da8c8_0 : decode cJxa1e45_init_da8c8 0 = .ok (.aload_n 0, 1) := by decide +kernel
theorem dJxa1e45_init_da8c8_1 : decode cJxa1e45_init_da8c8 1 = .ok (.invokespecial 1, 3) := by decide +kernel
theorem dJxa1e45_init_da8c8_4 : decode cJxa1e45_init_da8c8 4 = .ok (.return_, 1) := by decide +kernel
theorem dJxc12de_init_da8c8_0 : decode cJxc12de_init_da8c8 0 = .ok (.aload_n 0, 1) := by decide +kernel
theorem dJxc12de_init_da8c8_1 : decode cJxc12de_init_da8c8 1 = .ok (.invokespecial 1, 3) := by decide +kernel
theorem dJxc12de_init_da8c8_4 : decode cJxc12de_init_da8c8 4 = .ok (.aload_n 0, 1) := by decide +kernel
theorem dJxc12de_init_da8c8_5 : decode cJxc12de_init_da8c8 5 = .ok (.iconst 0, 1) := by decide +kernel
theorem dJxc12de_init_da8c8_6 : decode cJxc12de_init_da8c8 6 = .ok (.putfield 7, 3) := by decide +kernel
theorem dJxc12de_init_da8c8_9 : decode cJxc12de_init_da8c8 9 = .ok (.return_, 1) := by decide +kernel
theorem dL_areEqual_0 : decode cL_areEqual 0 = .ok (.aload_n 3, 1) := by decide +kernel
theorem dL_areEqual_1 : decode cL_areEqual 1 = .ok (.iconst 0, 1) := by decide +kernel
theorem dL_areEqual_2 : decode cL_areEqual 2 = .ok (.aload_n 0, 1) := by decide +kernel
theorem dL_areEqual_3 : decode cL_areEqual 3 = .ok (.iload_n 1, 1) := by decide +kernel
theorem dL_areEqual_4 : decode cL_areEqual 4 = .ok (.iload_n 2, 1) := by decide +kernel
theorem dL_areEqual_5 : decode cL_areEqual 5 = .ok (.invokevirtual 62, 3) := by decide +kernel
theorem dL_areEqual_20 : decode cL_areEqual 20 = .ok (.astore 4, 2) := by decide +kernel
theorem dL_areEqual_22 : decode cL_areEqual 22 = .ok (.iconst 1, 1) := by decide +kernel
theorem dL_areEqual_23 : decode cL_areEqual 23 = .ok (.ireturn, 1) := by decide +kernel
theorem dL_at_0 : decode cL_at 0 = .ok (.aload_n 3, 1) := by decide +kernel
theorem dL_at_1 : decode cL_at 1 = .ok (.iconst 0, 1) := by decide +kernel
theorem dL_at_2 : decode cL_at 2 = .ok (.aload_n 0, 1) := by decide +kernel
theorem dL_at_3 : decode cL_at 3 = .ok (.iload_n 1, 1) := by decide +kernel
theorem dL_at_4 : decode cL_at 4 = .ok (.iload_n 2, 1) := by decide +kernel
theorem dL_at_5 : decode cL_at 5 = .ok (.invokevirtual 27, 3) := by decide +kernel
theorem dL_at_13 : decode cL_at 13 = .ok (.astore 4, 2) := by decide +kernel
theorem dL_at_15 : decode cL_at 15 = .ok (.iconst 1, 1) := by decide +kernel
theorem dL_at_16 : decode cL_at 16 = .ok (.ireturn, 1) := by decide +kernel
theorem dL_compare_0 : decode cL_compare 0 = .ok (.aload_n 3, 1) := by decide +kernel
theorem dL_compare_1 : decode cL_compare 1 = .ok (.iconst 0, 1) := by decide +kernel
theorem dL_compare_2 : decode cL_compare 2 = .ok (.aload_n 0, 1) := by decide +kernel
theorem dL_compare_3 : decode cL_compare 3 = .ok (.iload_n 1, 1) := by decide +kernel
theorem dL_compare_4 : decode cL_compare 4 = .ok (.iload_n 2, 1) := by decide +kernel
theorem dL_compare_5 : decode cL_compare 5 = .ok (.invokevirtual 30, 3) := by decide +kernel
theorem dL_compare_13 : decode cL_compare 13 = .ok (.astore 4, 2) := by decide +kernel
theorem dL_compare_15 : decode cL_compare 15 = .ok (.iconst 1, 1) := by decide +kernel
theorem dL_compare_16 : decode cL_compare 16 = .ok (.ireturn, 1) := by decide +kernel
theorem dL_complete_0 : decode cL_complete 0 = .ok (.aload_n 2, 1) := by decide +kernel
theorem dL_complete_1 : decode cL_complete 1 = .ok (.iconst 0, 1) := by decide +kernel
theorem dL_complete_2 : decode cL_complete 2 = .ok (.aload_n 0, 1) := by decide +kernel
theorem dL_complete_3 : decode cL_complete 3 = .ok (.iload_n 1, 1) := by decide +kernel
theorem dL_complete_4 : decode cL_complete 4 = .ok (.invokevirtual 43, 3) := by decide +kernel
theorem dL_complete_7 : decode cL_complete 7 = .ok (.i2l, 1) := by decide +kernel
theorem dL_complete_8 : decode cL_complete 8 = .ok (.lastore, 1) := by decide +kernel
theorem dL_complete_9 : decode cL_complete 9 = .ok (.goto 6, 3) := by decide +kernel
theorem dL_complete_12 : decode cL_complete 12 = .ok (.astore_n 3, 1) := by decide +kernel
theorem dL_complete_13 : decode cL_complete 13 = .ok (.iconst 1, 1) := by decide +kernel
theorem dL_complete_14 : decode cL_complete 14 = .ok (.ireturn, 1) := by decide +kernel
theorem dL_complete_15 : decode cL_complete 15 = .ok (.iconst 0, 1) := by decide +kernel
theorem dL_complete_16 : decode cL_complete 16 = .ok (.ireturn, 1) := by decide +kernel
theorem dL_dropRule_0 : decode cL_dropRule 0 = .ok (.aload_n 2, 1) := by decide +kernel
theorem dL_dropRule_1 : decode cL_dropRule 1 = .ok (.iconst 0, 1) := by decide +kernel
theorem dL_dropRule_2 : decode cL_dropRule 2 = .ok (.aload_n 0, 1) := by decide +kernel
theorem dL_dropRule_3 : decode cL_dropRule 3 = .ok (.iload_n 1, 1) := by decide +kernel
theorem dL_dropRule_4 : decode cL_dropRule 4 = .ok (.invokevirtual 46, 3) := by decide +kernel
theorem dL_dropRule_12 : decode cL_dropRule 12 = .ok (.astore_n 3, 1) := by decide +kernel
theorem dL_dropRule_13 : decode cL_dropRule 13 = .ok (.iconst 1, 1) := by decide +kernel
theorem dL_dropRule_14 : decode cL_dropRule 14 = .ok (.ireturn, 1) := by decide +kernel
theorem dL_equation_0 : decode cL_equation 0 = .ok (.aload_n 3, 1) := by decide +kernel
theorem dL_equation_1 : decode cL_equation 1 = .ok (.iconst 0, 1) := by decide +kernel
theorem dL_equation_2 : decode cL_equation 2 = .ok (.aload_n 0, 1) := by decide +kernel
theorem dL_equation_3 : decode cL_equation 3 = .ok (.iload_n 1, 1) := by decide +kernel
theorem dL_equation_4 : decode cL_equation 4 = .ok (.iload_n 2, 1) := by decide +kernel
theorem dL_equation_5 : decode cL_equation 5 = .ok (.invokevirtual 40, 3) := by decide +kernel
theorem dL_equation_13 : decode cL_equation 13 = .ok (.astore 4, 2) := by decide +kernel
theorem dL_equation_15 : decode cL_equation 15 = .ok (.iconst 1, 1) := by decide +kernel
theorem dL_equation_16 : decode cL_equation 16 = .ok (.ireturn, 1) := by decide +kernel
theorem dL_fits_0 : decode cL_fits 0 = .ok (.aload_n 3, 1) := by decide +kernel
theorem dL_fits_1 : decode cL_fits 1 = .ok (.iconst 0, 1) := by decide +kernel
theorem dL_fits_2 : decode cL_fits 2 = .ok (.aload_n 0, 1) := by decide +kernel
theorem dL_fits_3 : decode cL_fits 3 = .ok (.iload_n 1, 1) := by decide +kernel
theorem dL_fits_4 : decode cL_fits 4 = .ok (.iload_n 2, 1) := by decide +kernel
theorem dL_fits_5 : decode cL_fits 5 = .ok (.invokevirtual 33, 3) := by decide +kernel
theorem dL_fits_20 : decode cL_fits 20 = .ok (.astore 4, 2) := by decide +kernel
theorem dL_fits_22 : decode cL_fits 22 = .ok (.iconst 1, 1) := by decide +kernel
theorem dL_fits_23 : decode cL_fits 23 = .ok (.ireturn, 1) := by decide +kernel
theorem dL_formula_0 : decode cL_formula 0 = .ok (.aload 4, 2) := by decide +kernel
theorem dL_formula_2 : decode cL_formula 2 = .ok (.iconst 0, 1) := by decide +kernel
theorem dL_formula_3 : decode cL_formula 3 = .ok (.aload_n 0, 1) := by decide +kernel
theorem dL_formula_4 : decode cL_formula 4 = .ok (.iload_n 1, 1) := by decide +kernel
theorem dL_formula_5 : decode cL_formula 5 = .ok (.iload_n 2, 1) := by decide +kernel
theorem dL_formula_6 : decode cL_formula 6 = .ok (.iload_n 3, 1) := by decide +kernel
theorem dL_formula_7 : decode cL_formula 7 = .ok (.invokevirtual 68, 3) := by decide +kernel
theorem dL_formula_10 : decode cL_formula 10 = .ok (.i2l, 1) := by decide +kernel
theorem dL_formula_11 : decode cL_formula 11 = .ok (.lastore, 1) := by decide +kernel
theorem dL_formula_12 : decode cL_formula 12 = .ok (.goto 15, 3) := by decide +kernel
theorem dL_formula_15 : decode cL_formula 15 = .ok (.astore 5, 2) := by decide +kernel
theorem dL_formula_17 : decode cL_formula 17 = .ok (.iconst 1, 1) := by decide +kernel
theorem dL_formula_18 : decode cL_formula 18 = .ok (.ireturn, 1) := by decide +kernel
theorem dL_formula_19 : decode cL_formula 19 = .ok (.astore 5, 2) := by decide +kernel
theorem dL_formula_21 : decode cL_formula 21 = .ok (.iconst 2, 1) := by decide +kernel
theorem dL_formula_22 : decode cL_formula 22 = .ok (.ireturn, 1) := by decide +kernel
theorem dL_formula_27 : decode cL_formula 27 = .ok (.iconst 0, 1) := by decide +kernel
theorem dL_formula_28 : decode cL_formula 28 = .ok (.ireturn, 1) := by decide +kernel
theorem dL_given_0 : decode cL_given 0 = .ok (.aload_n 2, 1) := by decide +kernel
theorem dL_given_1 : decode cL_given 1 = .ok (.iconst 0, 1) := by decide +kernel
theorem dL_given_2 : decode cL_given 2 = .ok (.aload_n 0, 1) := by decide +kernel
theorem dL_given_3 : decode cL_given 3 = .ok (.iload_n 1, 1) := by decide +kernel
theorem dL_given_4 : decode cL_given 4 = .ok (.invokevirtual 89, 3) := by decide +kernel
theorem dL_given_12 : decode cL_given 12 = .ok (.astore_n 3, 1) := by decide +kernel
theorem dL_given_13 : decode cL_given 13 = .ok (.iconst 1, 1) := by decide +kernel
theorem dL_given_14 : decode cL_given 14 = .ok (.ireturn, 1) := by decide +kernel
theorem dL_isProved_0 : decode cL_isProved 0 = .ok (.aload_n 2, 1) := by decide +kernel
theorem dL_isProved_1 : decode cL_isProved 1 = .ok (.iconst 0, 1) := by decide +kernel
theorem dL_isProved_2 : decode cL_isProved 2 = .ok (.aload_n 0, 1) := by decide +kernel
theorem dL_isProved_3 : decode cL_isProved 3 = .ok (.iload_n 1, 1) := by decide +kernel
theorem dL_isProved_4 : decode cL_isProved 4 = .ok (.invokevirtual 71, 3) := by decide +kernel
theorem dL_isProved_19 : decode cL_isProved 19 = .ok (.astore_n 3, 1) := by decide +kernel
theorem dL_isProved_20 : decode cL_isProved 20 = .ok (.iconst 1, 1) := by decide +kernel
theorem dL_isProved_21 : decode cL_isProved 21 = .ok (.ireturn, 1) := by decide +kernel
theorem dL_isRight_0 : decode cL_isRight 0 = .ok (.aload_n 2, 1) := by decide +kernel
theorem dL_isRight_1 : decode cL_isRight 1 = .ok (.iconst 0, 1) := by decide +kernel
theorem dL_isRight_2 : decode cL_isRight 2 = .ok (.aload_n 0, 1) := by decide +kernel
theorem dL_isRight_3 : decode cL_isRight 3 = .ok (.iload_n 1, 1) := by decide +kernel
theorem dL_isRight_4 : decode cL_isRight 4 = .ok (.invokevirtual 86, 3) := by decide +kernel
theorem dL_isRight_19 : decode cL_isRight 19 = .ok (.astore_n 3, 1) := by decide +kernel
theorem dL_isRight_20 : decode cL_isRight 20 = .ok (.iconst 1, 1) := by decide +kernel
theorem dL_isRight_21 : decode cL_isRight 21 = .ok (.ireturn, 1) := by decide +kernel
theorem dL_law_0 : decode cL_law 0 = .ok (.new 8, 3) := by decide +kernel
theorem dL_law_3 : decode cL_law 3 = .ok (.dup, 1) := by decide +kernel
theorem dL_law_4 : decode cL_law 4 = .ok (.invokespecial 98, 3) := by decide +kernel
theorem dL_law_7 : decode cL_law 7 = .ok (.astore_n 1, 1) := by decide +kernel
theorem dL_law_8 : decode cL_law 8 = .ok (.new 99, 3) := by decide +kernel
theorem dL_law_11 : decode cL_law 11 = .ok (.dup, 1) := by decide +kernel
theorem dL_law_12 : decode cL_law 12 = .ok (.invokespecial 101, 3) := by decide +kernel
theorem dL_law_15 : decode cL_law 15 = .ok (.astore_n 2, 1) := by decide +kernel
theorem dL_law_16 : decode cL_law 16 = .ok (.iconst 1, 1) := by decide +kernel
theorem dL_law_17 : decode cL_law 17 = .ok (.newarray .long, 2) := by decide +kernel
theorem dL_law_19 : decode cL_law 19 = .ok (.astore_n 3, 1) := by decide +kernel
theorem dL_law_20 : decode cL_law 20 = .ok (.iconst 0, 1) := by decide +kernel
theorem dL_law_21 : decode cL_law 21 = .ok (.istore 4, 2) := by decide +kernel
theorem dL_law_23 : decode cL_law 23 = .ok (.iload 4, 2) := by decide +kernel
theorem dL_law_25 : decode cL_law 25 = .ok (.aload_n 0, 1) := by decide +kernel
theorem dL_law_26 : decode cL_law 26 = .ok (.arraylength, 1) := by decide +kernel
theorem dL_law_27 : decode cL_law 27 = .ok (.iconst 5, 1) := by decide +kernel
theorem dL_law_28 : decode cL_law 28 = .ok (.isub, 1) := by decide +kernel
theorem dL_law_29 : decode cL_law 29 = .ok (.if_icmp .gt 1891, 3) := by decide +kernel
theorem dL_law_32 : decode cL_law 32 = .ok (.aload_n 0, 1) := by decide +kernel
theorem dL_law_33 : decode cL_law 33 = .ok (.iload 4, 2) := by decide +kernel
theorem dL_law_35 : decode cL_law 35 = .ok (.iaload, 1) := by decide +kernel
theorem dL_law_36 : decode cL_law 36 = .ok (.bipush 31, 2) := by decide +kernel
theorem dL_law_38 : decode cL_law 38 = .ok (.iand, 1) := by decide +kernel
theorem dL_law_39 : decode cL_law 39 = .ok (.tableswitch 1875 0 29 #[133, 189, 269, 282, 350, 418, 486, 561, 629, 697, 753, 809, 865, 949, 1005, 1061, 1136, 1204, 1245, 1325, 1338, 1401, 1469, 1561, 1605, 1668, 1724, 1737, 1793, 1861], 133) := by decide +kernel
theorem dL_law_172 : decode cL_law 172 = .ok (.aload_n 1, 1) := by decide +kernel
theorem dL_law_173 : decode cL_law 173 = .ok (.aload_n 0, 1) := by decide +kernel
theorem dL_law_174 : decode cL_law 174 = .ok (.iload 4, 2) := by decide +kernel
theorem dL_law_176 : decode cL_law 176 = .ok (.iconst 1, 1) := by decide +kernel
theorem dL_law_177 : decode cL_law 177 = .ok (.iadd, 1) := by decide +kernel
theorem dL_law_178 : decode cL_law 178 = .ok (.iaload, 1) := by decide +kernel
theorem dL_law_179 : decode cL_law 179 = .ok (.aload_n 3, 1) := by decide +kernel
theorem dL_law_180 : decode cL_law 180 = .ok (.invokestatic 102, 3) := by decide +kernel
theorem dL_law_183 : decode cL_law 183 = .ok (.istore 5, 2) := by decide +kernel
theorem dL_law_185 : decode cL_law 185 = .ok (.aload_n 2, 1) := by decide +kernel
theorem dL_law_186 : decode cL_law 186 = .ok (.aload_n 0, 1) := by decide +kernel
theorem dL_law_187 : decode cL_law 187 = .ok (.iload 4, 2) := by decide +kernel
theorem dL_law_189 : decode cL_law 189 = .ok (.iconst 1, 1) := by decide +kernel
theorem dL_law_190 : decode cL_law 190 = .ok (.iadd, 1) := by decide +kernel
theorem dL_law_191 : decode cL_law 191 = .ok (.iaload, 1) := by decide +kernel
theorem dL_law_192 : decode cL_law 192 = .ok (.invokevirtual 107, 3) := by decide +kernel
theorem dL_law_195 : decode cL_law 195 = .ok (.istore 6, 2) := by decide +kernel
theorem dL_law_197 : decode cL_law 197 = .ok (.aload_n 2, 1) := by decide +kernel
theorem dL_law_198 : decode cL_law 198 = .ok (.invokevirtual 108, 3) := by decide +kernel
theorem dL_law_201 : decode cL_law 201 = .ok (.iload 5, 2) := by decide +kernel
theorem dL_law_203 : decode cL_law 203 = .ok (.if_icmp .eq 5, 3) := by decide +kernel
theorem dL_law_208 : decode cL_law 208 = .ok (.iload 5, 2) := by decide +kernel
theorem dL_law_210 : decode cL_law 210 = .ok (.ifCond .ne 15, 3) := by decide +kernel
theorem dL_law_213 : decode cL_law 213 = .ok (.aload_n 3, 1) := by decide +kernel
theorem dL_law_214 : decode cL_law 214 = .ok (.iconst 0, 1) := by decide +kernel
theorem dL_law_215 : decode cL_law 215 = .ok (.laload, 1) := by decide +kernel
theorem dL_law_216 : decode cL_law 216 = .ok (.iload 6, 2) := by decide +kernel
theorem dL_law_218 : decode cL_law 218 = .ok (.i2l, 1) := by decide +kernel
theorem dL_law_219 : decode cL_law 219 = .ok (.lcmp, 1) := by decide +kernel
theorem dL_law_220 : decode cL_law 220 = .ok (.ifCond .eq 5, 3) := by decide +kernel
theorem dL_law_225 : decode cL_law 225 = .ok (.goto 1689, 3) := by decide +kernel
theorem dL_law_228 : decode cL_law 228 = .ok (.aload_n 1, 1) := by decide +kernel
theorem dL_law_229 : decode cL_law 229 = .ok (.aload_n 0, 1) := by decide +kernel
theorem dL_law_230 : decode cL_law 230 = .ok (.iload 4, 2) := by decide +kernel
theorem dL_law_232 : decode cL_law 232 = .ok (.iconst 1, 1) := by decide +kernel
theorem dL_law_233 : decode cL_law 233 = .ok (.iadd, 1) := by decide +kernel
theorem dL_law_234 : decode cL_law 234 = .ok (.iaload, 1) := by decide +kernel
theorem dL_law_235 : decode cL_law 235 = .ok (.aload_n 0, 1) := by decide +kernel
theorem dL_law_236 : decode cL_law 236 = .ok (.iload 4, 2) := by decide +kernel
theorem dL_law_238 : decode cL_law 238 = .ok (.iconst 2, 1) := by decide +kernel
theorem dL_law_239 : decode cL_law 239 = .ok (.iadd, 1) := by decide +kernel
theorem dL_law_240 : decode cL_law 240 = .ok (.iaload, 1) := by decide +kernel
theorem dL_law_241 : decode cL_law 241 = .ok (.aload_n 0, 1) := by decide +kernel
theorem dL_law_242 : decode cL_law 242 = .ok (.iload 4, 2) := by decide +kernel
theorem dL_law_244 : decode cL_law 244 = .ok (.iconst 3, 1) := by decide +kernel
theorem dL_law_245 : decode cL_law 245 = .ok (.iadd, 1) := by decide +kernel
theorem dL_law_246 : decode cL_law 246 = .ok (.iaload, 1) := by decide +kernel
theorem dL_law_247 : decode cL_law 247 = .ok (.aload_n 3, 1) := by decide +kernel
theorem dL_law_248 : decode cL_law 248 = .ok (.invokestatic 111, 3) := by decide +kernel
theorem dL_law_251 : decode cL_law 251 = .ok (.istore 5, 2) := by decide +kernel
theorem dL_law_253 : decode cL_law 253 = .ok (.aload_n 2, 1) := by decide +kernel
theorem dL_law_254 : decode cL_law 254 = .ok (.aload_n 0, 1) := by decide +kernel
theorem dL_law_255 : decode cL_law 255 = .ok (.iload 4, 2) := by decide +kernel
theorem dL_law_257 : decode cL_law 257 = .ok (.iconst 1, 1) := by decide +kernel
theorem dL_law_258 : decode cL_law 258 = .ok (.iadd, 1) := by decide +kernel
theorem dL_law_259 : decode cL_law 259 = .ok (.iaload, 1) := by decide +kernel
theorem dL_law_260 : decode cL_law 260 = .ok (.aload_n 0, 1) := by decide +kernel
theorem dL_law_261 : decode cL_law 261 = .ok (.iload 4, 2) := by decide +kernel
theorem dL_law_263 : decode cL_law 263 = .ok (.iconst 2, 1) := by decide +kernel
theorem dL_law_264 : decode cL_law 264 = .ok (.iadd, 1) := by decide +kernel
theorem dL_law_265 : decode cL_law 265 = .ok (.iaload, 1) := by decide +kernel
theorem dL_law_266 : decode cL_law 266 = .ok (.aload_n 0, 1) := by decide +kernel
theorem dL_law_267 : decode cL_law 267 = .ok (.iload 4, 2) := by decide +kernel
theorem dL_law_269 : decode cL_law 269 = .ok (.iconst 3, 1) := by decide +kernel
theorem dL_law_270 : decode cL_law 270 = .ok (.iadd, 1) := by decide +kernel
theorem dL_law_271 : decode cL_law 271 = .ok (.iaload, 1) := by decide +kernel
theorem dL_law_272 : decode cL_law 272 = .ok (.invokevirtual 114, 3) := by decide +kernel
theorem dL_law_275 : decode cL_law 275 = .ok (.istore 6, 2) := by decide +kernel
theorem dL_law_277 : decode cL_law 277 = .ok (.aload_n 2, 1) := by decide +kernel
theorem dL_law_278 : decode cL_law 278 = .ok (.invokevirtual 108, 3) := by decide +kernel
theorem dL_law_281 : decode cL_law 281 = .ok (.iload 5, 2) := by decide +kernel
theorem dL_law_283 : decode cL_law 283 = .ok (.if_icmp .eq 5, 3) := by decide +kernel
theorem dL_law_288 : decode cL_law 288 = .ok (.iload 5, 2) := by decide +kernel
theorem dL_law_290 : decode cL_law 290 = .ok (.ifCond .ne 15, 3) := by decide +kernel
theorem dL_law_293 : decode cL_law 293 = .ok (.aload_n 3, 1) := by decide +kernel
theorem dL_law_294 : decode cL_law 294 = .ok (.iconst 0, 1) := by decide +kernel
theorem dL_law_295 : decode cL_law 295 = .ok (.laload, 1) := by decide +kernel
theorem dL_law_296 : decode cL_law 296 = .ok (.iload 6, 2) := by decide +kernel
theorem dL_law_298 : decode cL_law 298 = .ok (.i2l, 1) := by decide +kernel
theorem dL_law_299 : decode cL_law 299 = .ok (.lcmp, 1) := by decide +kernel
theorem dL_law_300 : decode cL_law 300 = .ok (.ifCond .eq 5, 3) := by decide +kernel
theorem dL_law_305 : decode cL_law 305 = .ok (.goto 1609, 3) := by decide +kernel
theorem dL_law_308 : decode cL_law 308 = .ok (.aload_n 1, 1) := by decide +kernel
theorem dL_law_309 : decode cL_law 309 = .ok (.invokevirtual 115, 3) := by decide +kernel
theorem dL_law_312 : decode cL_law 312 = .ok (.aload_n 2, 1) := by decide +kernel
theorem dL_law_313 : decode cL_law 313 = .ok (.invokevirtual 118, 3) := by decide +kernel
theorem dL_law_316 : decode cL_law 316 = .ok (.if_icmp .eq 1598, 3) := by decide +kernel
theorem dL_law_321 : decode cL_law 321 = .ok (.aload_n 1, 1) := by decide +kernel
theorem dL_law_322 : decode cL_law 322 = .ok (.aload_n 0, 1) := by decide +kernel
theorem dL_law_323 : decode cL_law 323 = .ok (.iload 4, 2) := by decide +kernel
theorem dL_law_325 : decode cL_law 325 = .ok (.iconst 1, 1) := by decide +kernel
theorem dL_law_326 : decode cL_law 326 = .ok (.iadd, 1) := by decide +kernel
theorem dL_law_327 : decode cL_law 327 = .ok (.iaload, 1) := by decide +kernel
theorem dL_law_328 : decode cL_law 328 = .ok (.aload_n 0, 1) := by decide +kernel
theorem dL_law_329 : decode cL_law 329 = .ok (.iload 4, 2) := by decide +kernel
theorem dL_law_331 : decode cL_law 331 = .ok (.iconst 2, 1) := by decide +kernel
theorem dL_law_332 : decode cL_law 332 = .ok (.iadd, 1) := by decide +kernel
theorem dL_law_333 : decode cL_law 333 = .ok (.iaload, 1) := by decide +kernel
theorem dL_law_334 : decode cL_law 334 = .ok (.aload_n 3, 1) := by decide +kernel
theorem dL_law_335 : decode cL_law 335 = .ok (.invokestatic 119, 3) := by decide +kernel
theorem dL_law_338 : decode cL_law 338 = .ok (.istore 5, 2) := by decide +kernel
theorem dL_law_340 : decode cL_law 340 = .ok (.aload_n 2, 1) := by decide +kernel
theorem dL_law_341 : decode cL_law 341 = .ok (.aload_n 0, 1) := by decide +kernel
theorem dL_law_342 : decode cL_law 342 = .ok (.iload 4, 2) := by decide +kernel
theorem dL_law_344 : decode cL_law 344 = .ok (.iconst 1, 1) := by decide +kernel
theorem dL_law_345 : decode cL_law 345 = .ok (.iadd, 1) := by decide +kernel
theorem dL_law_346 : decode cL_law 346 = .ok (.iaload, 1) := by decide +kernel
theorem dL_law_347 : decode cL_law 347 = .ok (.aload_n 0, 1) := by decide +kernel
theorem dL_law_348 : decode cL_law 348 = .ok (.iload 4, 2) := by decide +kernel
theorem dL_law_350 : decode cL_law 350 = .ok (.iconst 2, 1) := by decide +kernel
theorem dL_law_351 : decode cL_law 351 = .ok (.iadd, 1) := by decide +kernel
theorem dL_law_352 : decode cL_law 352 = .ok (.iaload, 1) := by decide +kernel
theorem dL_law_353 : decode cL_law 353 = .ok (.invokevirtual 122, 3) := by decide +kernel
theorem dL_law_356 : decode cL_law 356 = .ok (.istore 6, 2) := by decide +kernel
theorem dL_law_358 : decode cL_law 358 = .ok (.aload_n 2, 1) := by decide +kernel
theorem dL_law_359 : decode cL_law 359 = .ok (.invokevirtual 108, 3) := by decide +kernel
theorem dL_law_362 : decode cL_law 362 = .ok (.iload 5, 2) := by decide +kernel
theorem dL_law_364 : decode cL_law 364 = .ok (.if_icmp .eq 5, 3) := by decide +kernel
theorem dL_law_369 : decode cL_law 369 = .ok (.iload 5, 2) := by decide +kernel
theorem dL_law_371 : decode cL_law 371 = .ok (.ifCond .ne 15, 3) := by decide +kernel
theorem dL_law_386 : decode cL_law 386 = .ok (.goto 1528, 3) := by decide +kernel
theorem dL_law_389 : decode cL_law 389 = .ok (.aload_n 1, 1) := by decide +kernel
theorem dL_law_390 : decode cL_law 390 = .ok (.aload_n 0, 1) := by decide +kernel
theorem dL_law_391 : decode cL_law 391 = .ok (.iload 4, 2) := by decide +kernel
theorem dL_law_393 : decode cL_law 393 = .ok (.iconst 1, 1) := by decide +kernel
theorem dL_law_394 : decode cL_law 394 = .ok (.iadd, 1) := by decide +kernel
theorem dL_law_395 : decode cL_law 395 = .ok (.iaload, 1) := by decide +kernel
theorem dL_law_396 : decode cL_law 396 = .ok (.aload_n 0, 1) := by decide +kernel
theorem dL_law_397 : decode cL_law 397 = .ok (.iload 4, 2) := by decide +kernel
theorem dL_law_399 : decode cL_law 399 = .ok (.iconst 2, 1) := by decide +kernel
theorem dL_law_400 : decode cL_law 400 = .ok (.iadd, 1) := by decide +kernel
theorem dL_law_401 : decode cL_law 401 = .ok (.iaload, 1) := by decide +kernel
theorem dL_law_402 : decode cL_law 402 = .ok (.aload_n 3, 1) := by decide +kernel
theorem dL_law_403 : decode cL_law 403 = .ok (.invokestatic 123, 3) := by decide +kernel
theorem dL_law_406 : decode cL_law 406 = .ok (.istore 5, 2) := by decide +kernel
theorem dL_law_408 : decode cL_law 408 = .ok (.aload_n 2, 1) := by decide +kernel
theorem dL_law_409 : decode cL_law 409 = .ok (.aload_n 0, 1) := by decide +kernel
theorem dL_law_410 : decode cL_law 410 = .ok (.iload 4, 2) := by decide +kernel
theorem dL_law_412 : decode cL_law 412 = .ok (.iconst 1, 1) := by decide +kernel
theorem dL_law_413 : decode cL_law 413 = .ok (.iadd, 1) := by decide +kernel
theorem dL_law_414 : decode cL_law 414 = .ok (.iaload, 1) := by decide +kernel
theorem dL_law_415 : decode cL_law 415 = .ok (.aload_n 0, 1) := by decide +kernel
theorem dL_law_416 : decode cL_law 416 = .ok (.iload 4, 2) := by decide +kernel
theorem dL_law_418 : decode cL_law 418 = .ok (.iconst 2, 1) := by decide +kernel
theorem dL_law_419 : decode cL_law 419 = .ok (.iadd, 1) := by decide +kernel
theorem dL_law_420 : decode cL_law 420 = .ok (.iaload, 1) := by decide +kernel
theorem dL_law_421 : decode cL_law 421 = .ok (.invokevirtual 125, 3) := by decide +kernel
theorem dL_law_424 : decode cL_law 424 = .ok (.istore 6, 2) := by decide +kernel
theorem dL_law_426 : decode cL_law 426 = .ok (.aload_n 2, 1) := by decide +kernel
theorem dL_law_427 : decode cL_law 427 = .ok (.invokevirtual 108, 3) := by decide +kernel
theorem dL_law_430 : decode cL_law 430 = .ok (.iload 5, 2) := by decide +kernel
theorem dL_law_432 : decode cL_law 432 = .ok (.if_icmp .eq 5, 3) := by decide +kernel
theorem dL_law_437 : decode cL_law 437 = .ok (.iload 5, 2) := by decide +kernel
theorem dL_law_439 : decode cL_law 439 = .ok (.ifCond .ne 15, 3) := by decide +kernel
theorem dL_law_454 : decode cL_law 454 = .ok (.goto 1460, 3) := by decide +kernel
theorem dL_law_457 : decode cL_law 457 = .ok (.aload_n 1, 1) := by decide +kernel
theorem dL_law_458 : decode cL_law 458 = .ok (.aload_n 0, 1) := by decide +kernel
theorem dL_law_459 : decode cL_law 459 = .ok (.iload 4, 2) := by decide +kernel
theorem dL_law_461 : decode cL_law 461 = .ok (.iconst 1, 1) := by decide +kernel
theorem dL_law_462 : decode cL_law 462 = .ok (.iadd, 1) := by decide +kernel
theorem dL_law_463 : decode cL_law 463 = .ok (.iaload, 1) := by decide +kernel
theorem dL_law_464 : decode cL_law 464 = .ok (.aload_n 0, 1) := by decide +kernel
theorem dL_law_465 : decode cL_law 465 = .ok (.iload 4, 2) := by decide +kernel
theorem dL_law_467 : decode cL_law 467 = .ok (.iconst 2, 1) := by decide +kernel
theorem dL_law_468 : decode cL_law 468 = .ok (.iadd, 1) := by decide +kernel
theorem dL_law_469 : decode cL_law 469 = .ok (.iaload, 1) := by decide +kernel
theorem dL_law_470 : decode cL_law 470 = .ok (.aload_n 3, 1) := by decide +kernel
theorem dL_law_471 : decode cL_law 471 = .ok (.invokestatic 126, 3) := by decide +kernel
theorem dL_law_474 : decode cL_law 474 = .ok (.istore 5, 2) := by decide +kernel
theorem dL_law_476 : decode cL_law 476 = .ok (.aload_n 2, 1) := by decide +kernel
theorem dL_law_477 : decode cL_law 477 = .ok (.aload_n 0, 1) := by decide +kernel
theorem dL_law_478 : decode cL_law 478 = .ok (.iload 4, 2) := by decide +kernel
theorem dL_law_480 : decode cL_law 480 = .ok (.iconst 1, 1) := by decide +kernel
theorem dL_law_481 : decode cL_law 481 = .ok (.iadd, 1) := by decide +kernel
theorem dL_law_482 : decode cL_law 482 = .ok (.iaload, 1) := by decide +kernel
theorem dL_law_483 : decode cL_law 483 = .ok (.aload_n 0, 1) := by decide +kernel
theorem dL_law_484 : decode cL_law 484 = .ok (.iload 4, 2) := by decide +kernel
theorem dL_law_486 : decode cL_law 486 = .ok (.iconst 2, 1) := by decide +kernel
theorem dL_law_487 : decode cL_law 487 = .ok (.iadd, 1) := by decide +kernel
theorem dL_law_488 : decode cL_law 488 = .ok (.iaload, 1) := by decide +kernel
theorem dL_law_489 : decode cL_law 489 = .ok (.invokevirtual 128, 3) := by decide +kernel
theorem dL_law_492 : decode cL_law 492 = .ok (.istore 6, 2) := by decide +kernel
theorem dL_law_494 : decode cL_law 494 = .ok (.aload_n 2, 1) := by decide +kernel
theorem dL_law_495 : decode cL_law 495 = .ok (.invokevirtual 108, 3) := by decide +kernel
theorem dL_law_498 : decode cL_law 498 = .ok (.iload 5, 2) := by decide +kernel
theorem dL_law_500 : decode cL_law 500 = .ok (.if_icmp .eq 5, 3) := by decide +kernel
theorem dL_law_505 : decode cL_law 505 = .ok (.iload 5, 2) := by decide +kernel
theorem dL_law_507 : decode cL_law 507 = .ok (.ifCond .ne 15, 3) := by decide +kernel
theorem dL_law_522 : decode cL_law 522 = .ok (.goto 1392, 3) := by decide +kernel
theorem dL_law_525 : decode cL_law 525 = .ok (.aload_n 1, 1) := by decide +kernel
theorem dL_law_526 : decode cL_law 526 = .ok (.aload_n 0, 1) := by decide +kernel
theorem dL_law_527 : decode cL_law 527 = .ok (.iload 4, 2) := by decide +kernel
theorem dL_law_529 : decode cL_law 529 = .ok (.iconst 1, 1) := by decide +kernel
theorem dL_law_530 : decode cL_law 530 = .ok (.iadd, 1) := by decide +kernel
theorem dL_law_531 : decode cL_law 531 = .ok (.iaload, 1) := by decide +kernel
theorem dL_law_532 : decode cL_law 532 = .ok (.aload_n 0, 1) := by decide +kernel
theorem dL_law_533 : decode cL_law 533 = .ok (.iload 4, 2) := by decide +kernel
theorem dL_law_535 : decode cL_law 535 = .ok (.iconst 2, 1) := by decide +kernel
theorem dL_law_536 : decode cL_law 536 = .ok (.iadd, 1) := by decide +kernel
theorem dL_law_537 : decode cL_law 537 = .ok (.iaload, 1) := by decide +kernel
theorem dL_law_538 : decode cL_law 538 = .ok (.aload_n 3, 1) := by decide +kernel
theorem dL_law_539 : decode cL_law 539 = .ok (.invokestatic 129, 3) := by decide +kernel
theorem dL_law_542 : decode cL_law 542 = .ok (.istore 5, 2) := by decide +kernel
theorem dL_law_544 : decode cL_law 544 = .ok (.aload_n 2, 1) := by decide +kernel
theorem dL_law_545 : decode cL_law 545 = .ok (.aload_n 0, 1) := by decide +kernel
theorem dL_law_546 : decode cL_law 546 = .ok (.iload 4, 2) := by decide +kernel
theorem dL_law_548 : decode cL_law 548 = .ok (.iconst 1, 1) := by decide +kernel
theorem dL_law_549 : decode cL_law 549 = .ok (.iadd, 1) := by decide +kernel
theorem dL_law_550 : decode cL_law 550 = .ok (.iaload, 1) := by decide +kernel
theorem dL_law_551 : decode cL_law 551 = .ok (.aload_n 0, 1) := by decide +kernel
theorem dL_law_552 : decode cL_law 552 = .ok (.iload 4, 2) := by decide +kernel
theorem dL_law_554 : decode cL_law 554 = .ok (.iconst 2, 1) := by decide +kernel
theorem dL_law_555 : decode cL_law 555 = .ok (.iadd, 1) := by decide +kernel
theorem dL_law_556 : decode cL_law 556 = .ok (.iaload, 1) := by decide +kernel
theorem dL_law_557 : decode cL_law 557 = .ok (.invokevirtual 131, 3) := by decide +kernel
theorem dL_law_560 : decode cL_law 560 = .ok (.istore 6, 2) := by decide +kernel
theorem dL_law_562 : decode cL_law 562 = .ok (.aload_n 2, 1) := by decide +kernel
theorem dL_law_563 : decode cL_law 563 = .ok (.invokevirtual 108, 3) := by decide +kernel
theorem dL_law_566 : decode cL_law 566 = .ok (.iload 5, 2) := by decide +kernel
theorem dL_law_568 : decode cL_law 568 = .ok (.if_icmp .eq 5, 3) := by decide +kernel
theorem dL_law_573 : decode cL_law 573 = .ok (.iload 5, 2) := by decide +kernel
theorem dL_law_575 : decode cL_law 575 = .ok (.ifCond .ne 22, 3) := by decide +kernel
theorem dL_law_597 : decode cL_law 597 = .ok (.goto 1317, 3) := by decide +kernel
theorem dL_law_600 : decode cL_law 600 = .ok (.aload_n 1, 1) := by decide +kernel
theorem dL_law_601 : decode cL_law 601 = .ok (.aload_n 0, 1) := by decide +kernel
theorem dL_law_602 : decode cL_law 602 = .ok (.iload 4, 2) := by decide +kernel
theorem dL_law_604 : decode cL_law 604 = .ok (.iconst 1, 1) := by decide +kernel
theorem dL_law_605 : decode cL_law 605 = .ok (.iadd, 1) := by decide +kernel
theorem dL_law_606 : decode cL_law 606 = .ok (.iaload, 1) := by decide +kernel
theorem dL_law_607 : decode cL_law 607 = .ok (.aload_n 0, 1) := by decide +kernel
theorem dL_law_608 : decode cL_law 608 = .ok (.iload 4, 2) := by decide +kernel
theorem dL_law_610 : decode cL_law 610 = .ok (.iconst 2, 1) := by decide +kernel
theorem dL_law_611 : decode cL_law 611 = .ok (.iadd, 1) := by decide +kernel
theorem dL_law_612 : decode cL_law 612 = .ok (.iaload, 1) := by decide +kernel
theorem dL_law_613 : decode cL_law 613 = .ok (.aload_n 3, 1) := by decide +kernel
theorem dL_law_614 : decode cL_law 614 = .ok (.invokestatic 132, 3) := by decide +kernel
theorem dL_law_617 : decode cL_law 617 = .ok (.istore 5, 2) := by decide +kernel
theorem dL_law_619 : decode cL_law 619 = .ok (.aload_n 2, 1) := by decide +kernel
theorem dL_law_620 : decode cL_law 620 = .ok (.aload_n 0, 1) := by decide +kernel
theorem dL_law_621 : decode cL_law 621 = .ok (.iload 4, 2) := by decide +kernel
theorem dL_law_623 : decode cL_law 623 = .ok (.iconst 1, 1) := by decide +kernel
theorem dL_law_624 : decode cL_law 624 = .ok (.iadd, 1) := by decide +kernel
theorem dL_law_625 : decode cL_law 625 = .ok (.iaload, 1) := by decide +kernel
theorem dL_law_626 : decode cL_law 626 = .ok (.aload_n 0, 1) := by decide +kernel
theorem dL_law_627 : decode cL_law 627 = .ok (.iload 4, 2) := by decide +kernel
theorem dL_law_629 : decode cL_law 629 = .ok (.iconst 2, 1) := by decide +kernel
theorem dL_law_630 : decode cL_law 630 = .ok (.iadd, 1) := by decide +kernel
theorem dL_law_631 : decode cL_law 631 = .ok (.iaload, 1) := by decide +kernel
theorem dL_law_632 : decode cL_law 632 = .ok (.invokevirtual 134, 3) := by decide +kernel
theorem dL_law_635 : decode cL_law 635 = .ok (.istore 6, 2) := by decide +kernel
theorem dL_law_637 : decode cL_law 637 = .ok (.aload_n 2, 1) := by decide +kernel
theorem dL_law_638 : decode cL_law 638 = .ok (.invokevirtual 108, 3) := by decide +kernel
theorem dL_law_641 : decode cL_law 641 = .ok (.iload 5, 2) := by decide +kernel
theorem dL_law_643 : decode cL_law 643 = .ok (.if_icmp .eq 5, 3) := by decide +kernel
theorem dL_law_648 : decode cL_law 648 = .ok (.iload 5, 2) := by decide +kernel
theorem dL_law_650 : decode cL_law 650 = .ok (.ifCond .ne 15, 3) := by decide +kernel
theorem dL_law_665 : decode cL_law 665 = .ok (.goto 1249, 3) := by decide +kernel
theorem dL_law_668 : decode cL_law 668 = .ok (.aload_n 1, 1) := by decide +kernel
theorem dL_law_669 : decode cL_law 669 = .ok (.aload_n 0, 1) := by decide +kernel
theorem dL_law_670 : decode cL_law 670 = .ok (.iload 4, 2) := by decide +kernel
theorem dL_law_672 : decode cL_law 672 = .ok (.iconst 1, 1) := by decide +kernel
theorem dL_law_673 : decode cL_law 673 = .ok (.iadd, 1) := by decide +kernel
theorem dL_law_674 : decode cL_law 674 = .ok (.iaload, 1) := by decide +kernel
theorem dL_law_675 : decode cL_law 675 = .ok (.aload_n 0, 1) := by decide +kernel
theorem dL_law_676 : decode cL_law 676 = .ok (.iload 4, 2) := by decide +kernel
theorem dL_law_678 : decode cL_law 678 = .ok (.iconst 2, 1) := by decide +kernel
theorem dL_law_679 : decode cL_law 679 = .ok (.iadd, 1) := by decide +kernel
theorem dL_law_680 : decode cL_law 680 = .ok (.iaload, 1) := by decide +kernel
theorem dL_law_681 : decode cL_law 681 = .ok (.aload_n 3, 1) := by decide +kernel
theorem dL_law_682 : decode cL_law 682 = .ok (.invokestatic 135, 3) := by decide +kernel
theorem dL_law_685 : decode cL_law 685 = .ok (.istore 5, 2) := by decide +kernel
theorem dL_law_687 : decode cL_law 687 = .ok (.aload_n 2, 1) := by decide +kernel
theorem dL_law_688 : decode cL_law 688 = .ok (.aload_n 0, 1) := by decide +kernel
theorem dL_law_689 : decode cL_law 689 = .ok (.iload 4, 2) := by decide +kernel
theorem dL_law_691 : decode cL_law 691 = .ok (.iconst 1, 1) := by decide +kernel
theorem dL_law_692 : decode cL_law 692 = .ok (.iadd, 1) := by decide +kernel
theorem dL_law_693 : decode cL_law 693 = .ok (.iaload, 1) := by decide +kernel
theorem dL_law_694 : decode cL_law 694 = .ok (.aload_n 0, 1) := by decide +kernel
theorem dL_law_695 : decode cL_law 695 = .ok (.iload 4, 2) := by decide +kernel
theorem dL_law_697 : decode cL_law 697 = .ok (.iconst 2, 1) := by decide +kernel
theorem dL_law_698 : decode cL_law 698 = .ok (.iadd, 1) := by decide +kernel
theorem dL_law_699 : decode cL_law 699 = .ok (.iaload, 1) := by decide +kernel
theorem dL_law_700 : decode cL_law 700 = .ok (.invokevirtual 137, 3) := by decide +kernel
theorem dL_law_703 : decode cL_law 703 = .ok (.istore 6, 2) := by decide +kernel
theorem dL_law_705 : decode cL_law 705 = .ok (.aload_n 2, 1) := by decide +kernel
theorem dL_law_706 : decode cL_law 706 = .ok (.invokevirtual 108, 3) := by decide +kernel
theorem dL_law_709 : decode cL_law 709 = .ok (.iload 5, 2) := by decide +kernel
theorem dL_law_711 : decode cL_law 711 = .ok (.if_icmp .eq 5, 3) := by decide +kernel
theorem dL_law_716 : decode cL_law 716 = .ok (.iload 5, 2) := by decide +kernel
theorem dL_law_718 : decode cL_law 718 = .ok (.ifCond .ne 15, 3) := by decide +kernel
theorem dL_law_733 : decode cL_law 733 = .ok (.goto 1181, 3) := by decide +kernel
theorem dL_law_736 : decode cL_law 736 = .ok (.aload_n 1, 1) := by decide +kernel
theorem dL_law_737 : decode cL_law 737 = .ok (.aload_n 0, 1) := by decide +kernel
theorem dL_law_738 : decode cL_law 738 = .ok (.iload 4, 2) := by decide +kernel
theorem dL_law_740 : decode cL_law 740 = .ok (.iconst 1, 1) := by decide +kernel
theorem dL_law_741 : decode cL_law 741 = .ok (.iadd, 1) := by decide +kernel
theorem dL_law_742 : decode cL_law 742 = .ok (.iaload, 1) := by decide +kernel
theorem dL_law_743 : decode cL_law 743 = .ok (.aload_n 3, 1) := by decide +kernel
theorem dL_law_744 : decode cL_law 744 = .ok (.invokestatic 138, 3) := by decide +kernel
theorem dL_law_747 : decode cL_law 747 = .ok (.istore 5, 2) := by decide +kernel
theorem dL_law_749 : decode cL_law 749 = .ok (.aload_n 2, 1) := by decide +kernel
theorem dL_law_750 : decode cL_law 750 = .ok (.aload_n 0, 1) := by decide +kernel
theorem dL_law_751 : decode cL_law 751 = .ok (.iload 4, 2) := by decide +kernel
theorem dL_law_753 : decode cL_law 753 = .ok (.iconst 1, 1) := by decide +kernel
theorem dL_law_754 : decode cL_law 754 = .ok (.iadd, 1) := by decide +kernel
theorem dL_law_755 : decode cL_law 755 = .ok (.iaload, 1) := by decide +kernel
theorem dL_law_756 : decode cL_law 756 = .ok (.invokevirtual 140, 3) := by decide +kernel
theorem dL_law_759 : decode cL_law 759 = .ok (.istore 6, 2) := by decide +kernel
theorem dL_law_761 : decode cL_law 761 = .ok (.aload_n 2, 1) := by decide +kernel
theorem dL_law_762 : decode cL_law 762 = .ok (.invokevirtual 108, 3) := by decide +kernel
theorem dL_law_765 : decode cL_law 765 = .ok (.iload 5, 2) := by decide +kernel
theorem dL_law_767 : decode cL_law 767 = .ok (.if_icmp .eq 5, 3) := by decide +kernel
theorem dL_law_772 : decode cL_law 772 = .ok (.iload 5, 2) := by decide +kernel
theorem dL_law_774 : decode cL_law 774 = .ok (.ifCond .ne 15, 3) := by decide +kernel
theorem dL_law_777 : decode cL_law 777 = .ok (.aload_n 3, 1) := by decide +kernel
theorem dL_law_778 : decode cL_law 778 = .ok (.iconst 0, 1) := by decide +kernel
theorem dL_law_779 : decode cL_law 779 = .ok (.laload, 1) := by decide +kernel
theorem dL_law_780 : decode cL_law 780 = .ok (.iload 6, 2) := by decide +kernel
theorem dL_law_782 : decode cL_law 782 = .ok (.i2l, 1) := by decide +kernel
theorem dL_law_783 : decode cL_law 783 = .ok (.lcmp, 1) := by decide +kernel
theorem dL_law_784 : decode cL_law 784 = .ok (.ifCond .eq 5, 3) := by decide +kernel
theorem dL_law_789 : decode cL_law 789 = .ok (.goto 1125, 3) := by decide +kernel
theorem dL_law_792 : decode cL_law 792 = .ok (.aload_n 1, 1) := by decide +kernel
theorem dL_law_793 : decode cL_law 793 = .ok (.aload_n 0, 1) := by decide +kernel
theorem dL_law_794 : decode cL_law 794 = .ok (.iload 4, 2) := by decide +kernel
theorem dL_law_796 : decode cL_law 796 = .ok (.iconst 1, 1) := by decide +kernel
theorem dL_law_797 : decode cL_law 797 = .ok (.iadd, 1) := by decide +kernel
theorem dL_law_798 : decode cL_law 798 = .ok (.iaload, 1) := by decide +kernel
theorem dL_law_799 : decode cL_law 799 = .ok (.aload_n 3, 1) := by decide +kernel
theorem dL_law_800 : decode cL_law 800 = .ok (.invokestatic 141, 3) := by decide +kernel
theorem dL_law_803 : decode cL_law 803 = .ok (.istore 5, 2) := by decide +kernel
theorem dL_law_805 : decode cL_law 805 = .ok (.aload_n 2, 1) := by decide +kernel
theorem dL_law_806 : decode cL_law 806 = .ok (.aload_n 0, 1) := by decide +kernel
theorem dL_law_807 : decode cL_law 807 = .ok (.iload 4, 2) := by decide +kernel
theorem dL_law_809 : decode cL_law 809 = .ok (.iconst 1, 1) := by decide +kernel
theorem dL_law_810 : decode cL_law 810 = .ok (.iadd, 1) := by decide +kernel
theorem dL_law_811 : decode cL_law 811 = .ok (.iaload, 1) := by decide +kernel
theorem dL_law_812 : decode cL_law 812 = .ok (.invokevirtual 143, 3) := by decide +kernel
theorem dL_law_815 : decode cL_law 815 = .ok (.istore 6, 2) := by decide +kernel
theorem dL_law_817 : decode cL_law 817 = .ok (.aload_n 2, 1) := by decide +kernel
theorem dL_law_818 : decode cL_law 818 = .ok (.invokevirtual 108, 3) := by decide +kernel
theorem dL_law_821 : decode cL_law 821 = .ok (.iload 5, 2) := by decide +kernel
theorem dL_law_823 : decode cL_law 823 = .ok (.if_icmp .eq 5, 3) := by decide +kernel
theorem dL_law_828 : decode cL_law 828 = .ok (.iload 5, 2) := by decide +kernel
theorem dL_law_830 : decode cL_law 830 = .ok (.ifCond .ne 15, 3) := by decide +kernel
theorem dL_law_845 : decode cL_law 845 = .ok (.goto 1069, 3) := by decide +kernel
theorem dL_law_848 : decode cL_law 848 = .ok (.aload_n 1, 1) := by decide +kernel
theorem dL_law_849 : decode cL_law 849 = .ok (.aload_n 0, 1) := by decide +kernel
theorem dL_law_850 : decode cL_law 850 = .ok (.iload 4, 2) := by decide +kernel
theorem dL_law_852 : decode cL_law 852 = .ok (.iconst 1, 1) := by decide +kernel
theorem dL_law_853 : decode cL_law 853 = .ok (.iadd, 1) := by decide +kernel
theorem dL_law_854 : decode cL_law 854 = .ok (.iaload, 1) := by decide +kernel
theorem dL_law_855 : decode cL_law 855 = .ok (.aload_n 3, 1) := by decide +kernel
theorem dL_law_856 : decode cL_law 856 = .ok (.invokestatic 144, 3) := by decide +kernel
theorem dL_law_859 : decode cL_law 859 = .ok (.istore 5, 2) := by decide +kernel
theorem dL_law_861 : decode cL_law 861 = .ok (.aload_n 2, 1) := by decide +kernel
theorem dL_law_862 : decode cL_law 862 = .ok (.aload_n 0, 1) := by decide +kernel
theorem dL_law_863 : decode cL_law 863 = .ok (.iload 4, 2) := by decide +kernel
theorem dL_law_865 : decode cL_law 865 = .ok (.iconst 1, 1) := by decide +kernel
theorem dL_law_866 : decode cL_law 866 = .ok (.iadd, 1) := by decide +kernel
theorem dL_law_867 : decode cL_law 867 = .ok (.iaload, 1) := by decide +kernel
theorem dL_law_868 : decode cL_law 868 = .ok (.invokevirtual 146, 3) := by decide +kernel
theorem dL_law_871 : decode cL_law 871 = .ok (.istore 6, 2) := by decide +kernel
theorem dL_law_873 : decode cL_law 873 = .ok (.aload_n 2, 1) := by decide +kernel
theorem dL_law_874 : decode cL_law 874 = .ok (.invokevirtual 108, 3) := by decide +kernel
theorem dL_law_877 : decode cL_law 877 = .ok (.iload 5, 2) := by decide +kernel
theorem dL_law_879 : decode cL_law 879 = .ok (.if_icmp .eq 5, 3) := by decide +kernel
theorem dL_law_884 : decode cL_law 884 = .ok (.iload 5, 2) := by decide +kernel
theorem dL_law_886 : decode cL_law 886 = .ok (.ifCond .ne 15, 3) := by decide +kernel
theorem dL_law_889 : decode cL_law 889 = .ok (.aload_n 3, 1) := by decide +kernel
theorem dL_law_890 : decode cL_law 890 = .ok (.iconst 0, 1) := by decide +kernel
theorem dL_law_891 : decode cL_law 891 = .ok (.laload, 1) := by decide +kernel
theorem dL_law_892 : decode cL_law 892 = .ok (.iload 6, 2) := by decide +kernel
theorem dL_law_894 : decode cL_law 894 = .ok (.i2l, 1) := by decide +kernel
theorem dL_law_895 : decode cL_law 895 = .ok (.lcmp, 1) := by decide +kernel
theorem dL_law_896 : decode cL_law 896 = .ok (.ifCond .eq 5, 3) := by decide +kernel
theorem dL_law_901 : decode cL_law 901 = .ok (.goto 1013, 3) := by decide +kernel
theorem dL_law_904 : decode cL_law 904 = .ok (.aload_n 1, 1) := by decide +kernel
theorem dL_law_905 : decode cL_law 905 = .ok (.aload_n 0, 1) := by decide +kernel
theorem dL_law_906 : decode cL_law 906 = .ok (.iload 4, 2) := by decide +kernel
theorem dL_law_908 : decode cL_law 908 = .ok (.iconst 1, 1) := by decide +kernel
theorem dL_law_909 : decode cL_law 909 = .ok (.iadd, 1) := by decide +kernel
theorem dL_law_910 : decode cL_law 910 = .ok (.iaload, 1) := by decide +kernel
theorem dL_law_911 : decode cL_law 911 = .ok (.aload_n 0, 1) := by decide +kernel
theorem dL_law_912 : decode cL_law 912 = .ok (.iload 4, 2) := by decide +kernel
theorem dL_law_914 : decode cL_law 914 = .ok (.iconst 2, 1) := by decide +kernel
theorem dL_law_915 : decode cL_law 915 = .ok (.iadd, 1) := by decide +kernel
theorem dL_law_916 : decode cL_law 916 = .ok (.iaload, 1) := by decide +kernel
theorem dL_law_917 : decode cL_law 917 = .ok (.ifCond .eq 7, 3) := by decide +kernel
theorem dL_law_920 : decode cL_law 920 = .ok (.iconst 1, 1) := by decide +kernel
theorem dL_law_921 : decode cL_law 921 = .ok (.goto 4, 3) := by decide +kernel
theorem dL_law_924 : decode cL_law 924 = .ok (.iconst 0, 1) := by decide +kernel
theorem dL_law_925 : decode cL_law 925 = .ok (.aload_n 3, 1) := by decide +kernel
theorem dL_law_926 : decode cL_law 926 = .ok (.invokestatic 147, 3) := by decide +kernel
theorem dL_law_929 : decode cL_law 929 = .ok (.istore 5, 2) := by decide +kernel
theorem dL_law_931 : decode cL_law 931 = .ok (.aload_n 2, 1) := by decide +kernel
theorem dL_law_932 : decode cL_law 932 = .ok (.aload_n 0, 1) := by decide +kernel
theorem dL_law_933 : decode cL_law 933 = .ok (.iload 4, 2) := by decide +kernel
theorem dL_law_935 : decode cL_law 935 = .ok (.iconst 1, 1) := by decide +kernel
theorem dL_law_936 : decode cL_law 936 = .ok (.iadd, 1) := by decide +kernel
theorem dL_law_937 : decode cL_law 937 = .ok (.iaload, 1) := by decide +kernel
theorem dL_law_938 : decode cL_law 938 = .ok (.aload_n 0, 1) := by decide +kernel
theorem dL_law_939 : decode cL_law 939 = .ok (.iload 4, 2) := by decide +kernel
theorem dL_law_941 : decode cL_law 941 = .ok (.iconst 2, 1) := by decide +kernel
theorem dL_law_942 : decode cL_law 942 = .ok (.iadd, 1) := by decide +kernel
theorem dL_law_943 : decode cL_law 943 = .ok (.iaload, 1) := by decide +kernel
theorem dL_law_944 : decode cL_law 944 = .ok (.ifCond .eq 7, 3) := by decide +kernel
theorem dL_law_947 : decode cL_law 947 = .ok (.iconst 1, 1) := by decide +kernel
theorem dL_law_948 : decode cL_law 948 = .ok (.goto 4, 3) := by decide +kernel
theorem dL_law_951 : decode cL_law 951 = .ok (.iconst 0, 1) := by decide +kernel
theorem dL_law_952 : decode cL_law 952 = .ok (.invokevirtual 150, 3) := by decide +kernel
theorem dL_law_955 : decode cL_law 955 = .ok (.istore 6, 2) := by decide +kernel
theorem dL_law_957 : decode cL_law 957 = .ok (.aload_n 2, 1) := by decide +kernel
theorem dL_law_958 : decode cL_law 958 = .ok (.invokevirtual 108, 3) := by decide +kernel
theorem dL_law_961 : decode cL_law 961 = .ok (.iload 5, 2) := by decide +kernel
theorem dL_law_963 : decode cL_law 963 = .ok (.if_icmp .eq 5, 3) := by decide +kernel
theorem dL_law_968 : decode cL_law 968 = .ok (.iload 5, 2) := by decide +kernel
theorem dL_law_970 : decode cL_law 970 = .ok (.ifCond .ne 15, 3) := by decide +kernel
theorem dL_law_985 : decode cL_law 985 = .ok (.goto 929, 3) := by decide +kernel
theorem dL_law_988 : decode cL_law 988 = .ok (.aload_n 1, 1) := by decide +kernel
theorem dL_law_989 : decode cL_law 989 = .ok (.aload_n 0, 1) := by decide +kernel
theorem dL_law_990 : decode cL_law 990 = .ok (.iload 4, 2) := by decide +kernel
theorem dL_law_992 : decode cL_law 992 = .ok (.iconst 1, 1) := by decide +kernel
theorem dL_law_993 : decode cL_law 993 = .ok (.iadd, 1) := by decide +kernel
theorem dL_law_994 : decode cL_law 994 = .ok (.iaload, 1) := by decide +kernel
theorem dL_law_995 : decode cL_law 995 = .ok (.aload_n 3, 1) := by decide +kernel
theorem dL_law_996 : decode cL_law 996 = .ok (.invokestatic 151, 3) := by decide +kernel
theorem dL_law_999 : decode cL_law 999 = .ok (.istore 5, 2) := by decide +kernel
theorem dL_law_1001 : decode cL_law 1001 = .ok (.aload_n 2, 1) := by decide +kernel
theorem dL_law_1002 : decode cL_law 1002 = .ok (.aload_n 0, 1) := by decide +kernel
theorem dL_law_1003 : decode cL_law 1003 = .ok (.iload 4, 2) := by decide +kernel
theorem dL_law_1005 : decode cL_law 1005 = .ok (.iconst 1, 1) := by decide +kernel
theorem dL_law_1006 : decode cL_law 1006 = .ok (.iadd, 1) := by decide +kernel
theorem dL_law_1007 : decode cL_law 1007 = .ok (.iaload, 1) := by decide +kernel
theorem dL_law_1008 : decode cL_law 1008 = .ok (.invokevirtual 153, 3) := by decide +kernel
theorem dL_law_1011 : decode cL_law 1011 = .ok (.istore 6, 2) := by decide +kernel
theorem dL_law_1013 : decode cL_law 1013 = .ok (.aload_n 2, 1) := by decide +kernel
theorem dL_law_1014 : decode cL_law 1014 = .ok (.invokevirtual 108, 3) := by decide +kernel
theorem dL_law_1017 : decode cL_law 1017 = .ok (.iload 5, 2) := by decide +kernel
theorem dL_law_1019 : decode cL_law 1019 = .ok (.if_icmp .eq 5, 3) := by decide +kernel
theorem dL_law_1024 : decode cL_law 1024 = .ok (.iload 5, 2) := by decide +kernel
theorem dL_law_1026 : decode cL_law 1026 = .ok (.ifCond .ne 15, 3) := by decide +kernel
theorem dL_law_1041 : decode cL_law 1041 = .ok (.goto 873, 3) := by decide +kernel
theorem dL_law_1044 : decode cL_law 1044 = .ok (.aload_n 1, 1) := by decide +kernel
theorem dL_law_1045 : decode cL_law 1045 = .ok (.aload_n 0, 1) := by decide +kernel
theorem dL_law_1046 : decode cL_law 1046 = .ok (.iload 4, 2) := by decide +kernel
theorem dL_law_1048 : decode cL_law 1048 = .ok (.iconst 1, 1) := by decide +kernel
theorem dL_law_1049 : decode cL_law 1049 = .ok (.iadd, 1) := by decide +kernel
theorem dL_law_1050 : decode cL_law 1050 = .ok (.iaload, 1) := by decide +kernel
theorem dL_law_1051 : decode cL_law 1051 = .ok (.aload_n 3, 1) := by decide +kernel
theorem dL_law_1052 : decode cL_law 1052 = .ok (.invokestatic 154, 3) := by decide +kernel
theorem dL_law_1055 : decode cL_law 1055 = .ok (.istore 5, 2) := by decide +kernel
theorem dL_law_1057 : decode cL_law 1057 = .ok (.aload_n 2, 1) := by decide +kernel
theorem dL_law_1058 : decode cL_law 1058 = .ok (.aload_n 0, 1) := by decide +kernel
theorem dL_law_1059 : decode cL_law 1059 = .ok (.iload 4, 2) := by decide +kernel
theorem dL_law_1061 : decode cL_law 1061 = .ok (.iconst 1, 1) := by decide +kernel
theorem dL_law_1062 : decode cL_law 1062 = .ok (.iadd, 1) := by decide +kernel
theorem dL_law_1063 : decode cL_law 1063 = .ok (.iaload, 1) := by decide +kernel
theorem dL_law_1064 : decode cL_law 1064 = .ok (.invokevirtual 156, 3) := by decide +kernel
theorem dL_law_1067 : decode cL_law 1067 = .ok (.istore 6, 2) := by decide +kernel
theorem dL_law_1069 : decode cL_law 1069 = .ok (.aload_n 2, 1) := by decide +kernel
theorem dL_law_1070 : decode cL_law 1070 = .ok (.invokevirtual 108, 3) := by decide +kernel
theorem dL_law_1073 : decode cL_law 1073 = .ok (.iload 5, 2) := by decide +kernel
theorem dL_law_1075 : decode cL_law 1075 = .ok (.if_icmp .eq 5, 3) := by decide +kernel
theorem dL_law_1080 : decode cL_law 1080 = .ok (.iload 5, 2) := by decide +kernel
theorem dL_law_1082 : decode cL_law 1082 = .ok (.ifCond .ne 15, 3) := by decide +kernel
theorem dL_law_1097 : decode cL_law 1097 = .ok (.goto 817, 3) := by decide +kernel
theorem dL_law_1100 : decode cL_law 1100 = .ok (.aload_n 1, 1) := by decide +kernel
theorem dL_law_1101 : decode cL_law 1101 = .ok (.aload_n 0, 1) := by decide +kernel
theorem dL_law_1102 : decode cL_law 1102 = .ok (.iload 4, 2) := by decide +kernel
theorem dL_law_1104 : decode cL_law 1104 = .ok (.iconst 1, 1) := by decide +kernel
theorem dL_law_1105 : decode cL_law 1105 = .ok (.iadd, 1) := by decide +kernel
theorem dL_law_1106 : decode cL_law 1106 = .ok (.iaload, 1) := by decide +kernel
theorem dL_law_1107 : decode cL_law 1107 = .ok (.aload_n 0, 1) := by decide +kernel
theorem dL_law_1108 : decode cL_law 1108 = .ok (.iload 4, 2) := by decide +kernel
theorem dL_law_1110 : decode cL_law 1110 = .ok (.iconst 2, 1) := by decide +kernel
theorem dL_law_1111 : decode cL_law 1111 = .ok (.iadd, 1) := by decide +kernel
theorem dL_law_1112 : decode cL_law 1112 = .ok (.iaload, 1) := by decide +kernel
theorem dL_law_1113 : decode cL_law 1113 = .ok (.aload_n 3, 1) := by decide +kernel
theorem dL_law_1114 : decode cL_law 1114 = .ok (.invokestatic 157, 3) := by decide +kernel
theorem dL_law_1117 : decode cL_law 1117 = .ok (.istore 5, 2) := by decide +kernel
theorem dL_law_1119 : decode cL_law 1119 = .ok (.aload_n 2, 1) := by decide +kernel
theorem dL_law_1120 : decode cL_law 1120 = .ok (.aload_n 0, 1) := by decide +kernel
theorem dL_law_1121 : decode cL_law 1121 = .ok (.iload 4, 2) := by decide +kernel
theorem dL_law_1123 : decode cL_law 1123 = .ok (.iconst 1, 1) := by decide +kernel
theorem dL_law_1124 : decode cL_law 1124 = .ok (.iadd, 1) := by decide +kernel
theorem dL_law_1125 : decode cL_law 1125 = .ok (.iaload, 1) := by decide +kernel
theorem dL_law_1126 : decode cL_law 1126 = .ok (.aload_n 0, 1) := by decide +kernel
theorem dL_law_1127 : decode cL_law 1127 = .ok (.iload 4, 2) := by decide +kernel
theorem dL_law_1129 : decode cL_law 1129 = .ok (.iconst 2, 1) := by decide +kernel
theorem dL_law_1130 : decode cL_law 1130 = .ok (.iadd, 1) := by decide +kernel
theorem dL_law_1131 : decode cL_law 1131 = .ok (.iaload, 1) := by decide +kernel
theorem dL_law_1132 : decode cL_law 1132 = .ok (.invokevirtual 159, 3) := by decide +kernel
theorem dL_law_1135 : decode cL_law 1135 = .ok (.istore 6, 2) := by decide +kernel
theorem dL_law_1137 : decode cL_law 1137 = .ok (.aload_n 2, 1) := by decide +kernel
theorem dL_law_1138 : decode cL_law 1138 = .ok (.invokevirtual 108, 3) := by decide +kernel
theorem dL_law_1141 : decode cL_law 1141 = .ok (.iload 5, 2) := by decide +kernel
theorem dL_law_1143 : decode cL_law 1143 = .ok (.if_icmp .eq 5, 3) := by decide +kernel
theorem dL_law_1148 : decode cL_law 1148 = .ok (.iload 5, 2) := by decide +kernel
theorem dL_law_1150 : decode cL_law 1150 = .ok (.ifCond .ne 22, 3) := by decide +kernel
theorem dL_law_1172 : decode cL_law 1172 = .ok (.goto 742, 3) := by decide +kernel
theorem dL_law_1175 : decode cL_law 1175 = .ok (.aload_n 1, 1) := by decide +kernel
theorem dL_law_1176 : decode cL_law 1176 = .ok (.aload_n 0, 1) := by decide +kernel
theorem dL_law_1177 : decode cL_law 1177 = .ok (.iload 4, 2) := by decide +kernel
theorem dL_law_1179 : decode cL_law 1179 = .ok (.iconst 1, 1) := by decide +kernel
theorem dL_law_1180 : decode cL_law 1180 = .ok (.iadd, 1) := by decide +kernel
theorem dL_law_1181 : decode cL_law 1181 = .ok (.iaload, 1) := by decide +kernel
theorem dL_law_1182 : decode cL_law 1182 = .ok (.aload_n 0, 1) := by decide +kernel
theorem dL_law_1183 : decode cL_law 1183 = .ok (.iload 4, 2) := by decide +kernel
theorem dL_law_1185 : decode cL_law 1185 = .ok (.iconst 2, 1) := by decide +kernel
theorem dL_law_1186 : decode cL_law 1186 = .ok (.iadd, 1) := by decide +kernel
theorem dL_law_1187 : decode cL_law 1187 = .ok (.iaload, 1) := by decide +kernel
theorem dL_law_1188 : decode cL_law 1188 = .ok (.aload_n 3, 1) := by decide +kernel
theorem dL_law_1189 : decode cL_law 1189 = .ok (.invokestatic 160, 3) := by decide +kernel
theorem dL_law_1192 : decode cL_law 1192 = .ok (.istore 5, 2) := by decide +kernel
theorem dL_law_1194 : decode cL_law 1194 = .ok (.aload_n 2, 1) := by decide +kernel
theorem dL_law_1195 : decode cL_law 1195 = .ok (.aload_n 0, 1) := by decide +kernel
theorem dL_law_1196 : decode cL_law 1196 = .ok (.iload 4, 2) := by decide +kernel
theorem dL_law_1198 : decode cL_law 1198 = .ok (.iconst 1, 1) := by decide +kernel
theorem dL_law_1199 : decode cL_law 1199 = .ok (.iadd, 1) := by decide +kernel
theorem dL_law_1200 : decode cL_law 1200 = .ok (.iaload, 1) := by decide +kernel
theorem dL_law_1201 : decode cL_law 1201 = .ok (.aload_n 0, 1) := by decide +kernel
theorem dL_law_1202 : decode cL_law 1202 = .ok (.iload 4, 2) := by decide +kernel
theorem dL_law_1204 : decode cL_law 1204 = .ok (.iconst 2, 1) := by decide +kernel
theorem dL_law_1205 : decode cL_law 1205 = .ok (.iadd, 1) := by decide +kernel
theorem dL_law_1206 : decode cL_law 1206 = .ok (.iaload, 1) := by decide +kernel
theorem dL_law_1207 : decode cL_law 1207 = .ok (.invokevirtual 162, 3) := by decide +kernel
theorem dL_law_1210 : decode cL_law 1210 = .ok (.istore 6, 2) := by decide +kernel
theorem dL_law_1212 : decode cL_law 1212 = .ok (.aload_n 2, 1) := by decide +kernel
theorem dL_law_1213 : decode cL_law 1213 = .ok (.invokevirtual 108, 3) := by decide +kernel
theorem dL_law_1216 : decode cL_law 1216 = .ok (.iload 5, 2) := by decide +kernel
theorem dL_law_1218 : decode cL_law 1218 = .ok (.if_icmp .eq 5, 3) := by decide +kernel
theorem dL_law_1223 : decode cL_law 1223 = .ok (.iload 5, 2) := by decide +kernel
theorem dL_law_1225 : decode cL_law 1225 = .ok (.ifCond .ne 15, 3) := by decide +kernel
theorem dL_law_1240 : decode cL_law 1240 = .ok (.goto 674, 3) := by decide +kernel
theorem dL_law_1243 : decode cL_law 1243 = .ok (.aload_n 1, 1) := by decide +kernel
theorem dL_law_1244 : decode cL_law 1244 = .ok (.invokevirtual 163, 3) := by decide +kernel
theorem dL_law_1247 : decode cL_law 1247 = .ok (.dstore 5, 2) := by decide +kernel
theorem dL_law_1249 : decode cL_law 1249 = .ok (.aload_n 2, 1) := by decide +kernel
theorem dL_law_1250 : decode cL_law 1250 = .ok (.invokevirtual 167, 3) := by decide +kernel
theorem dL_law_1253 : decode cL_law 1253 = .ok (.dstore 7, 2) := by decide +kernel
theorem dL_law_1255 : decode cL_law 1255 = .ok (.dload 5, 2) := by decide +kernel
theorem dL_law_1257 : decode cL_law 1257 = .ok (.dload 7, 2) := by decide +kernel
theorem dL_law_1259 : decode cL_law 1259 = .ok (.dcmp .l, 1) := by decide +kernel
theorem dL_law_1260 : decode cL_law 1260 = .ok (.ifCond .eq 21, 3) := by decide +kernel
theorem dL_law_1281 : decode cL_law 1281 = .ok (.goto 633, 3) := by decide +kernel
theorem dL_law_1284 : decode cL_law 1284 = .ok (.aload_n 1, 1) := by decide +kernel
theorem dL_law_1285 : decode cL_law 1285 = .ok (.aload_n 0, 1) := by decide +kernel
theorem dL_law_1286 : decode cL_law 1286 = .ok (.iload 4, 2) := by decide +kernel
theorem dL_law_1288 : decode cL_law 1288 = .ok (.iconst 1, 1) := by decide +kernel
theorem dL_law_1289 : decode cL_law 1289 = .ok (.iadd, 1) := by decide +kernel
theorem dL_law_1290 : decode cL_law 1290 = .ok (.iaload, 1) := by decide +kernel
theorem dL_law_1291 : decode cL_law 1291 = .ok (.aload_n 0, 1) := by decide +kernel
theorem dL_law_1292 : decode cL_law 1292 = .ok (.iload 4, 2) := by decide +kernel
theorem dL_law_1294 : decode cL_law 1294 = .ok (.iconst 2, 1) := by decide +kernel
theorem dL_law_1295 : decode cL_law 1295 = .ok (.iadd, 1) := by decide +kernel
theorem dL_law_1296 : decode cL_law 1296 = .ok (.iaload, 1) := by decide +kernel
theorem dL_law_1297 : decode cL_law 1297 = .ok (.aload_n 0, 1) := by decide +kernel
theorem dL_law_1298 : decode cL_law 1298 = .ok (.iload 4, 2) := by decide +kernel
theorem dL_law_1300 : decode cL_law 1300 = .ok (.iconst 3, 1) := by decide +kernel
theorem dL_law_1301 : decode cL_law 1301 = .ok (.iadd, 1) := by decide +kernel
theorem dL_law_1302 : decode cL_law 1302 = .ok (.iaload, 1) := by decide +kernel
theorem dL_law_1303 : decode cL_law 1303 = .ok (.aload_n 3, 1) := by decide +kernel
theorem dL_law_1304 : decode cL_law 1304 = .ok (.invokestatic 168, 3) := by decide +kernel
theorem dL_law_1307 : decode cL_law 1307 = .ok (.istore 5, 2) := by decide +kernel
theorem dL_law_1309 : decode cL_law 1309 = .ok (.aload_n 2, 1) := by decide +kernel
theorem dL_law_1310 : decode cL_law 1310 = .ok (.aload_n 0, 1) := by decide +kernel
theorem dL_law_1311 : decode cL_law 1311 = .ok (.iload 4, 2) := by decide +kernel
theorem dL_law_1313 : decode cL_law 1313 = .ok (.iconst 1, 1) := by decide +kernel
theorem dL_law_1314 : decode cL_law 1314 = .ok (.iadd, 1) := by decide +kernel
theorem dL_law_1315 : decode cL_law 1315 = .ok (.iaload, 1) := by decide +kernel
theorem dL_law_1316 : decode cL_law 1316 = .ok (.aload_n 0, 1) := by decide +kernel
theorem dL_law_1317 : decode cL_law 1317 = .ok (.iload 4, 2) := by decide +kernel
theorem dL_law_1319 : decode cL_law 1319 = .ok (.iconst 2, 1) := by decide +kernel
theorem dL_law_1320 : decode cL_law 1320 = .ok (.iadd, 1) := by decide +kernel
theorem dL_law_1321 : decode cL_law 1321 = .ok (.iaload, 1) := by decide +kernel
theorem dL_law_1322 : decode cL_law 1322 = .ok (.aload_n 0, 1) := by decide +kernel
theorem dL_law_1323 : decode cL_law 1323 = .ok (.iload 4, 2) := by decide +kernel
theorem dL_law_1325 : decode cL_law 1325 = .ok (.iconst 3, 1) := by decide +kernel
theorem dL_law_1326 : decode cL_law 1326 = .ok (.iadd, 1) := by decide +kernel
theorem dL_law_1327 : decode cL_law 1327 = .ok (.iaload, 1) := by decide +kernel
theorem dL_law_1328 : decode cL_law 1328 = .ok (.invokevirtual 170, 3) := by decide +kernel
theorem dL_law_1331 : decode cL_law 1331 = .ok (.istore 6, 2) := by decide +kernel
theorem dL_law_1333 : decode cL_law 1333 = .ok (.aload_n 2, 1) := by decide +kernel
theorem dL_law_1334 : decode cL_law 1334 = .ok (.invokevirtual 108, 3) := by decide +kernel
theorem dL_law_1337 : decode cL_law 1337 = .ok (.iload 5, 2) := by decide +kernel
theorem dL_law_1339 : decode cL_law 1339 = .ok (.if_icmp .eq 5, 3) := by decide +kernel
theorem dL_law_1344 : decode cL_law 1344 = .ok (.iload 5, 2) := by decide +kernel
theorem dL_law_1346 : decode cL_law 1346 = .ok (.ifCond .ne 15, 3) := by decide +kernel
theorem dL_law_1349 : decode cL_law 1349 = .ok (.aload_n 3, 1) := by decide +kernel
theorem dL_law_1350 : decode cL_law 1350 = .ok (.iconst 0, 1) := by decide +kernel
theorem dL_law_1351 : decode cL_law 1351 = .ok (.laload, 1) := by decide +kernel
theorem dL_law_1352 : decode cL_law 1352 = .ok (.iload 6, 2) := by decide +kernel
theorem dL_law_1354 : decode cL_law 1354 = .ok (.i2l, 1) := by decide +kernel
theorem dL_law_1355 : decode cL_law 1355 = .ok (.lcmp, 1) := by decide +kernel
theorem dL_law_1356 : decode cL_law 1356 = .ok (.ifCond .eq 5, 3) := by decide +kernel
theorem dL_law_1361 : decode cL_law 1361 = .ok (.goto 553, 3) := by decide +kernel
theorem dL_law_1364 : decode cL_law 1364 = .ok (.aload_n 1, 1) := by decide +kernel
theorem dL_law_1365 : decode cL_law 1365 = .ok (.invokevirtual 171, 3) := by decide +kernel
theorem dL_law_1368 : decode cL_law 1368 = .ok (.aload_n 2, 1) := by decide +kernel
theorem dL_law_1369 : decode cL_law 1369 = .ok (.invokevirtual 174, 3) := by decide +kernel
theorem dL_law_1372 : decode cL_law 1372 = .ok (.if_icmp .eq 542, 3) := by decide +kernel
theorem dL_law_1377 : decode cL_law 1377 = .ok (.aload_n 1, 1) := by decide +kernel
theorem dL_law_1378 : decode cL_law 1378 = .ok (.aload_n 0, 1) := by decide +kernel
theorem dL_law_1379 : decode cL_law 1379 = .ok (.iload 4, 2) := by decide +kernel
theorem dL_law_1381 : decode cL_law 1381 = .ok (.iconst 1, 1) := by decide +kernel
theorem dL_law_1382 : decode cL_law 1382 = .ok (.iadd, 1) := by decide +kernel
theorem dL_law_1383 : decode cL_law 1383 = .ok (.iaload, 1) := by decide +kernel
theorem dL_law_1384 : decode cL_law 1384 = .ok (.aload_n 3, 1) := by decide +kernel
theorem dL_law_1385 : decode cL_law 1385 = .ok (.invokestatic 175, 3) := by decide +kernel
theorem dL_law_1388 : decode cL_law 1388 = .ok (.istore 5, 2) := by decide +kernel
theorem dL_law_1390 : decode cL_law 1390 = .ok (.aload_n 2, 1) := by decide +kernel
theorem dL_law_1391 : decode cL_law 1391 = .ok (.aload_n 0, 1) := by decide +kernel
theorem dL_law_1392 : decode cL_law 1392 = .ok (.iload 4, 2) := by decide +kernel
theorem dL_law_1394 : decode cL_law 1394 = .ok (.iconst 1, 1) := by decide +kernel
theorem dL_law_1395 : decode cL_law 1395 = .ok (.iadd, 1) := by decide +kernel
theorem dL_law_1396 : decode cL_law 1396 = .ok (.iaload, 1) := by decide +kernel
theorem dL_law_1397 : decode cL_law 1397 = .ok (.invokevirtual 177, 3) := by decide +kernel
theorem dL_law_1400 : decode cL_law 1400 = .ok (.istore 6, 2) := by decide +kernel
theorem dL_law_1402 : decode cL_law 1402 = .ok (.aload_n 2, 1) := by decide +kernel
theorem dL_law_1403 : decode cL_law 1403 = .ok (.invokevirtual 108, 3) := by decide +kernel
theorem dL_law_1406 : decode cL_law 1406 = .ok (.iload 5, 2) := by decide +kernel
theorem dL_law_1408 : decode cL_law 1408 = .ok (.if_icmp .eq 5, 3) := by decide +kernel
theorem dL_law_1413 : decode cL_law 1413 = .ok (.iload 5, 2) := by decide +kernel
theorem dL_law_1415 : decode cL_law 1415 = .ok (.ifCond .ne 22, 3) := by decide +kernel
theorem dL_law_1437 : decode cL_law 1437 = .ok (.goto 477, 3) := by decide +kernel
theorem dL_law_1440 : decode cL_law 1440 = .ok (.aload_n 1, 1) := by decide +kernel
theorem dL_law_1441 : decode cL_law 1441 = .ok (.aload_n 0, 1) := by decide +kernel
theorem dL_law_1442 : decode cL_law 1442 = .ok (.iload 4, 2) := by decide +kernel
theorem dL_law_1444 : decode cL_law 1444 = .ok (.iconst 1, 1) := by decide +kernel
theorem dL_law_1445 : decode cL_law 1445 = .ok (.iadd, 1) := by decide +kernel
theorem dL_law_1446 : decode cL_law 1446 = .ok (.iaload, 1) := by decide +kernel
theorem dL_law_1447 : decode cL_law 1447 = .ok (.aload_n 0, 1) := by decide +kernel
theorem dL_law_1448 : decode cL_law 1448 = .ok (.iload 4, 2) := by decide +kernel
theorem dL_law_1450 : decode cL_law 1450 = .ok (.iconst 2, 1) := by decide +kernel
theorem dL_law_1451 : decode cL_law 1451 = .ok (.iadd, 1) := by decide +kernel
theorem dL_law_1452 : decode cL_law 1452 = .ok (.iaload, 1) := by decide +kernel
theorem dL_law_1453 : decode cL_law 1453 = .ok (.aload_n 3, 1) := by decide +kernel
theorem dL_law_1454 : decode cL_law 1454 = .ok (.invokestatic 178, 3) := by decide +kernel
theorem dL_law_1457 : decode cL_law 1457 = .ok (.istore 5, 2) := by decide +kernel
theorem dL_law_1459 : decode cL_law 1459 = .ok (.aload_n 2, 1) := by decide +kernel
theorem dL_law_1460 : decode cL_law 1460 = .ok (.aload_n 0, 1) := by decide +kernel
theorem dL_law_1461 : decode cL_law 1461 = .ok (.iload 4, 2) := by decide +kernel
theorem dL_law_1463 : decode cL_law 1463 = .ok (.iconst 1, 1) := by decide +kernel
theorem dL_law_1464 : decode cL_law 1464 = .ok (.iadd, 1) := by decide +kernel
theorem dL_law_1465 : decode cL_law 1465 = .ok (.iaload, 1) := by decide +kernel
theorem dL_law_1466 : decode cL_law 1466 = .ok (.aload_n 0, 1) := by decide +kernel
theorem dL_law_1467 : decode cL_law 1467 = .ok (.iload 4, 2) := by decide +kernel
theorem dL_law_1469 : decode cL_law 1469 = .ok (.iconst 2, 1) := by decide +kernel
theorem dL_law_1470 : decode cL_law 1470 = .ok (.iadd, 1) := by decide +kernel
theorem dL_law_1471 : decode cL_law 1471 = .ok (.iaload, 1) := by decide +kernel
theorem dL_law_1472 : decode cL_law 1472 = .ok (.invokevirtual 180, 3) := by decide +kernel
theorem dL_law_1475 : decode cL_law 1475 = .ok (.istore 6, 2) := by decide +kernel
theorem dL_law_1477 : decode cL_law 1477 = .ok (.aload_n 2, 1) := by decide +kernel
theorem dL_law_1478 : decode cL_law 1478 = .ok (.invokevirtual 108, 3) := by decide +kernel
theorem dL_law_1481 : decode cL_law 1481 = .ok (.iload 5, 2) := by decide +kernel
theorem dL_law_1483 : decode cL_law 1483 = .ok (.if_icmp .eq 5, 3) := by decide +kernel
theorem dL_law_1488 : decode cL_law 1488 = .ok (.iload 5, 2) := by decide +kernel
theorem dL_law_1490 : decode cL_law 1490 = .ok (.ifCond .ne 15, 3) := by decide +kernel
theorem dL_law_1505 : decode cL_law 1505 = .ok (.goto 409, 3) := by decide +kernel
theorem dL_law_1508 : decode cL_law 1508 = .ok (.aload_n 1, 1) := by decide +kernel
theorem dL_law_1509 : decode cL_law 1509 = .ok (.aload_n 0, 1) := by decide +kernel
theorem dL_law_1510 : decode cL_law 1510 = .ok (.iload 4, 2) := by decide +kernel
theorem dL_law_1512 : decode cL_law 1512 = .ok (.iconst 1, 1) := by decide +kernel
theorem dL_law_1513 : decode cL_law 1513 = .ok (.iadd, 1) := by decide +kernel
theorem dL_law_1514 : decode cL_law 1514 = .ok (.iaload, 1) := by decide +kernel
theorem dL_law_1515 : decode cL_law 1515 = .ok (.aload_n 0, 1) := by decide +kernel
theorem dL_law_1516 : decode cL_law 1516 = .ok (.iload 4, 2) := by decide +kernel
theorem dL_law_1518 : decode cL_law 1518 = .ok (.iconst 2, 1) := by decide +kernel
theorem dL_law_1519 : decode cL_law 1519 = .ok (.iadd, 1) := by decide +kernel
theorem dL_law_1520 : decode cL_law 1520 = .ok (.iaload, 1) := by decide +kernel
theorem dL_law_1521 : decode cL_law 1521 = .ok (.aload_n 0, 1) := by decide +kernel
theorem dL_law_1522 : decode cL_law 1522 = .ok (.iload 4, 2) := by decide +kernel
theorem dL_law_1524 : decode cL_law 1524 = .ok (.iconst 3, 1) := by decide +kernel
theorem dL_law_1525 : decode cL_law 1525 = .ok (.iadd, 1) := by decide +kernel
theorem dL_law_1526 : decode cL_law 1526 = .ok (.iaload, 1) := by decide +kernel
theorem dL_law_1527 : decode cL_law 1527 = .ok (.aload_n 0, 1) := by decide +kernel
theorem dL_law_1528 : decode cL_law 1528 = .ok (.iload 4, 2) := by decide +kernel
theorem dL_law_1530 : decode cL_law 1530 = .ok (.iconst 4, 1) := by decide +kernel
theorem dL_law_1531 : decode cL_law 1531 = .ok (.iadd, 1) := by decide +kernel
theorem dL_law_1532 : decode cL_law 1532 = .ok (.iaload, 1) := by decide +kernel
theorem dL_law_1533 : decode cL_law 1533 = .ok (.aload_n 3, 1) := by decide +kernel
theorem dL_law_1534 : decode cL_law 1534 = .ok (.invokestatic 181, 3) := by decide +kernel
theorem dL_law_1537 : decode cL_law 1537 = .ok (.istore 5, 2) := by decide +kernel
theorem dL_law_1539 : decode cL_law 1539 = .ok (.aload_n 2, 1) := by decide +kernel
theorem dL_law_1540 : decode cL_law 1540 = .ok (.aload_n 0, 1) := by decide +kernel
theorem dL_law_1541 : decode cL_law 1541 = .ok (.iload 4, 2) := by decide +kernel
theorem dL_law_1543 : decode cL_law 1543 = .ok (.iconst 1, 1) := by decide +kernel
theorem dL_law_1544 : decode cL_law 1544 = .ok (.iadd, 1) := by decide +kernel
theorem dL_law_1545 : decode cL_law 1545 = .ok (.iaload, 1) := by decide +kernel
theorem dL_law_1546 : decode cL_law 1546 = .ok (.aload_n 0, 1) := by decide +kernel
theorem dL_law_1547 : decode cL_law 1547 = .ok (.iload 4, 2) := by decide +kernel
theorem dL_law_1549 : decode cL_law 1549 = .ok (.iconst 2, 1) := by decide +kernel
theorem dL_law_1550 : decode cL_law 1550 = .ok (.iadd, 1) := by decide +kernel
theorem dL_law_1551 : decode cL_law 1551 = .ok (.iaload, 1) := by decide +kernel
theorem dL_law_1552 : decode cL_law 1552 = .ok (.aload_n 0, 1) := by decide +kernel
theorem dL_law_1553 : decode cL_law 1553 = .ok (.iload 4, 2) := by decide +kernel
theorem dL_law_1555 : decode cL_law 1555 = .ok (.iconst 3, 1) := by decide +kernel
theorem dL_law_1556 : decode cL_law 1556 = .ok (.iadd, 1) := by decide +kernel
theorem dL_law_1557 : decode cL_law 1557 = .ok (.iaload, 1) := by decide +kernel
theorem dL_law_1558 : decode cL_law 1558 = .ok (.aload_n 0, 1) := by decide +kernel
theorem dL_law_1559 : decode cL_law 1559 = .ok (.iload 4, 2) := by decide +kernel
theorem dL_law_1561 : decode cL_law 1561 = .ok (.iconst 4, 1) := by decide +kernel
theorem dL_law_1562 : decode cL_law 1562 = .ok (.iadd, 1) := by decide +kernel
theorem dL_law_1563 : decode cL_law 1563 = .ok (.iaload, 1) := by decide +kernel
theorem dL_law_1564 : decode cL_law 1564 = .ok (.invokevirtual 184, 3) := by decide +kernel
theorem dL_law_1567 : decode cL_law 1567 = .ok (.istore 6, 2) := by decide +kernel
theorem dL_law_1569 : decode cL_law 1569 = .ok (.aload_n 2, 1) := by decide +kernel
theorem dL_law_1570 : decode cL_law 1570 = .ok (.invokevirtual 108, 3) := by decide +kernel
theorem dL_law_1573 : decode cL_law 1573 = .ok (.iload 5, 2) := by decide +kernel
theorem dL_law_1575 : decode cL_law 1575 = .ok (.if_icmp .eq 5, 3) := by decide +kernel
theorem dL_law_1580 : decode cL_law 1580 = .ok (.iload 5, 2) := by decide +kernel
theorem dL_law_1582 : decode cL_law 1582 = .ok (.ifCond .ne 15, 3) := by decide +kernel
theorem dL_law_1597 : decode cL_law 1597 = .ok (.goto 317, 3) := by decide +kernel
theorem dL_law_1600 : decode cL_law 1600 = .ok (.aload_n 1, 1) := by decide +kernel
theorem dL_law_1601 : decode cL_law 1601 = .ok (.aload_n 3, 1) := by decide +kernel
theorem dL_law_1602 : decode cL_law 1602 = .ok (.invokestatic 185, 3) := by decide +kernel
theorem dL_law_1605 : decode cL_law 1605 = .ok (.istore 5, 2) := by decide +kernel
theorem dL_law_1607 : decode cL_law 1607 = .ok (.aload_n 2, 1) := by decide +kernel
theorem dL_law_1608 : decode cL_law 1608 = .ok (.invokevirtual 188, 3) := by decide +kernel
theorem dL_law_1611 : decode cL_law 1611 = .ok (.istore 6, 2) := by decide +kernel
theorem dL_law_1613 : decode cL_law 1613 = .ok (.aload_n 2, 1) := by decide +kernel
theorem dL_law_1614 : decode cL_law 1614 = .ok (.invokevirtual 108, 3) := by decide +kernel
theorem dL_law_1617 : decode cL_law 1617 = .ok (.iload 5, 2) := by decide +kernel
theorem dL_law_1619 : decode cL_law 1619 = .ok (.if_icmp .eq 5, 3) := by decide +kernel
theorem dL_law_1624 : decode cL_law 1624 = .ok (.iload 5, 2) := by decide +kernel
theorem dL_law_1626 : decode cL_law 1626 = .ok (.ifCond .ne 15, 3) := by decide +kernel
theorem dL_law_1641 : decode cL_law 1641 = .ok (.goto 273, 3) := by decide +kernel
theorem dL_law_1644 : decode cL_law 1644 = .ok (.aload_n 1, 1) := by decide +kernel
theorem dL_law_1645 : decode cL_law 1645 = .ok (.aload_n 0, 1) := by decide +kernel
theorem dL_law_1646 : decode cL_law 1646 = .ok (.iload 4, 2) := by decide +kernel
theorem dL_law_1648 : decode cL_law 1648 = .ok (.iconst 1, 1) := by decide +kernel
theorem dL_law_1649 : decode cL_law 1649 = .ok (.iadd, 1) := by decide +kernel
theorem dL_law_1650 : decode cL_law 1650 = .ok (.iaload, 1) := by decide +kernel
theorem dL_law_1651 : decode cL_law 1651 = .ok (.aload_n 3, 1) := by decide +kernel
theorem dL_law_1652 : decode cL_law 1652 = .ok (.invokestatic 189, 3) := by decide +kernel
theorem dL_law_1655 : decode cL_law 1655 = .ok (.istore 5, 2) := by decide +kernel
theorem dL_law_1657 : decode cL_law 1657 = .ok (.aload_n 2, 1) := by decide +kernel
theorem dL_law_1658 : decode cL_law 1658 = .ok (.aload_n 0, 1) := by decide +kernel
theorem dL_law_1659 : decode cL_law 1659 = .ok (.iload 4, 2) := by decide +kernel
theorem dL_law_1661 : decode cL_law 1661 = .ok (.iconst 1, 1) := by decide +kernel
theorem dL_law_1662 : decode cL_law 1662 = .ok (.iadd, 1) := by decide +kernel
theorem dL_law_1663 : decode cL_law 1663 = .ok (.iaload, 1) := by decide +kernel
theorem dL_law_1664 : decode cL_law 1664 = .ok (.invokevirtual 191, 3) := by decide +kernel
theorem dL_law_1667 : decode cL_law 1667 = .ok (.istore 6, 2) := by decide +kernel
theorem dL_law_1669 : decode cL_law 1669 = .ok (.aload_n 2, 1) := by decide +kernel
theorem dL_law_1670 : decode cL_law 1670 = .ok (.invokevirtual 108, 3) := by decide +kernel
theorem dL_law_1673 : decode cL_law 1673 = .ok (.iload 5, 2) := by decide +kernel
theorem dL_law_1675 : decode cL_law 1675 = .ok (.if_icmp .eq 5, 3) := by decide +kernel
theorem dL_law_1680 : decode cL_law 1680 = .ok (.iload 5, 2) := by decide +kernel
theorem dL_law_1682 : decode cL_law 1682 = .ok (.ifCond .ne 22, 3) := by decide +kernel
theorem dL_law_1704 : decode cL_law 1704 = .ok (.goto 210, 3) := by decide +kernel
theorem dL_law_1707 : decode cL_law 1707 = .ok (.aload_n 1, 1) := by decide +kernel
theorem dL_law_1708 : decode cL_law 1708 = .ok (.aload_n 0, 1) := by decide +kernel
theorem dL_law_1709 : decode cL_law 1709 = .ok (.iload 4, 2) := by decide +kernel
theorem dL_law_1711 : decode cL_law 1711 = .ok (.iconst 1, 1) := by decide +kernel
theorem dL_law_1712 : decode cL_law 1712 = .ok (.iadd, 1) := by decide +kernel
theorem dL_law_1713 : decode cL_law 1713 = .ok (.iaload, 1) := by decide +kernel
theorem dL_law_1714 : decode cL_law 1714 = .ok (.aload_n 3, 1) := by decide +kernel
theorem dL_law_1715 : decode cL_law 1715 = .ok (.invokestatic 192, 3) := by decide +kernel
theorem dL_law_1718 : decode cL_law 1718 = .ok (.istore 5, 2) := by decide +kernel
theorem dL_law_1720 : decode cL_law 1720 = .ok (.aload_n 2, 1) := by decide +kernel
theorem dL_law_1721 : decode cL_law 1721 = .ok (.aload_n 0, 1) := by decide +kernel
theorem dL_law_1722 : decode cL_law 1722 = .ok (.iload 4, 2) := by decide +kernel
theorem dL_law_1724 : decode cL_law 1724 = .ok (.iconst 1, 1) := by decide +kernel
theorem dL_law_1725 : decode cL_law 1725 = .ok (.iadd, 1) := by decide +kernel
theorem dL_law_1726 : decode cL_law 1726 = .ok (.iaload, 1) := by decide +kernel
theorem dL_law_1727 : decode cL_law 1727 = .ok (.invokevirtual 194, 3) := by decide +kernel
theorem dL_law_1730 : decode cL_law 1730 = .ok (.istore 6, 2) := by decide +kernel
theorem dL_law_1732 : decode cL_law 1732 = .ok (.aload_n 2, 1) := by decide +kernel
theorem dL_law_1733 : decode cL_law 1733 = .ok (.invokevirtual 108, 3) := by decide +kernel
theorem dL_law_1736 : decode cL_law 1736 = .ok (.iload 5, 2) := by decide +kernel
theorem dL_law_1738 : decode cL_law 1738 = .ok (.if_icmp .eq 5, 3) := by decide +kernel
theorem dL_law_1743 : decode cL_law 1743 = .ok (.iload 5, 2) := by decide +kernel
theorem dL_law_1745 : decode cL_law 1745 = .ok (.ifCond .ne 15, 3) := by decide +kernel
theorem dL_law_1760 : decode cL_law 1760 = .ok (.goto 154, 3) := by decide +kernel
theorem dL_law_1763 : decode cL_law 1763 = .ok (.aload_n 1, 1) := by decide +kernel
theorem dL_law_1764 : decode cL_law 1764 = .ok (.invokevirtual 195, 3) := by decide +kernel
theorem dL_law_1767 : decode cL_law 1767 = .ok (.aload_n 2, 1) := by decide +kernel
theorem dL_law_1768 : decode cL_law 1768 = .ok (.invokevirtual 198, 3) := by decide +kernel
theorem dL_law_1771 : decode cL_law 1771 = .ok (.if_icmp .eq 143, 3) := by decide +kernel
theorem dL_law_1776 : decode cL_law 1776 = .ok (.aload_n 1, 1) := by decide +kernel
theorem dL_law_1777 : decode cL_law 1777 = .ok (.aload_n 0, 1) := by decide +kernel
theorem dL_law_1778 : decode cL_law 1778 = .ok (.iload 4, 2) := by decide +kernel
theorem dL_law_1780 : decode cL_law 1780 = .ok (.iconst 1, 1) := by decide +kernel
theorem dL_law_1781 : decode cL_law 1781 = .ok (.iadd, 1) := by decide +kernel
theorem dL_law_1782 : decode cL_law 1782 = .ok (.iaload, 1) := by decide +kernel
theorem dL_law_1783 : decode cL_law 1783 = .ok (.aload_n 3, 1) := by decide +kernel
theorem dL_law_1784 : decode cL_law 1784 = .ok (.invokestatic 199, 3) := by decide +kernel
theorem dL_law_1787 : decode cL_law 1787 = .ok (.istore 5, 2) := by decide +kernel
theorem dL_law_1789 : decode cL_law 1789 = .ok (.aload_n 2, 1) := by decide +kernel
theorem dL_law_1790 : decode cL_law 1790 = .ok (.aload_n 0, 1) := by decide +kernel
theorem dL_law_1791 : decode cL_law 1791 = .ok (.iload 4, 2) := by decide +kernel
theorem dL_law_1793 : decode cL_law 1793 = .ok (.iconst 1, 1) := by decide +kernel
theorem dL_law_1794 : decode cL_law 1794 = .ok (.iadd, 1) := by decide +kernel
theorem dL_law_1795 : decode cL_law 1795 = .ok (.iaload, 1) := by decide +kernel
theorem dL_law_1796 : decode cL_law 1796 = .ok (.invokevirtual 201, 3) := by decide +kernel
theorem dL_law_1799 : decode cL_law 1799 = .ok (.istore 6, 2) := by decide +kernel
theorem dL_law_1801 : decode cL_law 1801 = .ok (.aload_n 2, 1) := by decide +kernel
theorem dL_law_1802 : decode cL_law 1802 = .ok (.invokevirtual 108, 3) := by decide +kernel
theorem dL_law_1805 : decode cL_law 1805 = .ok (.iload 5, 2) := by decide +kernel
theorem dL_law_1807 : decode cL_law 1807 = .ok (.if_icmp .eq 5, 3) := by decide +kernel
theorem dL_law_1812 : decode cL_law 1812 = .ok (.iload 5, 2) := by decide +kernel
theorem dL_law_1814 : decode cL_law 1814 = .ok (.ifCond .ne 15, 3) := by decide +kernel
theorem dL_law_1817 : decode cL_law 1817 = .ok (.aload_n 3, 1) := by decide +kernel
theorem dL_law_1818 : decode cL_law 1818 = .ok (.iconst 0, 1) := by decide +kernel
theorem dL_law_1819 : decode cL_law 1819 = .ok (.laload, 1) := by decide +kernel
theorem dL_law_1820 : decode cL_law 1820 = .ok (.iload 6, 2) := by decide +kernel
theorem dL_law_1822 : decode cL_law 1822 = .ok (.i2l, 1) := by decide +kernel
theorem dL_law_1823 : decode cL_law 1823 = .ok (.lcmp, 1) := by decide +kernel
theorem dL_law_1824 : decode cL_law 1824 = .ok (.ifCond .eq 5, 3) := by decide +kernel
theorem dL_law_1829 : decode cL_law 1829 = .ok (.goto 85, 3) := by decide +kernel
theorem dL_law_1832 : decode cL_law 1832 = .ok (.aload_n 1, 1) := by decide +kernel
theorem dL_law_1833 : decode cL_law 1833 = .ok (.aload_n 0, 1) := by decide +kernel
theorem dL_law_1834 : decode cL_law 1834 = .ok (.iload 4, 2) := by decide +kernel
theorem dL_law_1836 : decode cL_law 1836 = .ok (.iconst 1, 1) := by decide +kernel
theorem dL_law_1837 : decode cL_law 1837 = .ok (.iadd, 1) := by decide +kernel
theorem dL_law_1838 : decode cL_law 1838 = .ok (.iaload, 1) := by decide +kernel
theorem dL_law_1839 : decode cL_law 1839 = .ok (.aload_n 0, 1) := by decide +kernel
theorem dL_law_1840 : decode cL_law 1840 = .ok (.iload 4, 2) := by decide +kernel
theorem dL_law_1842 : decode cL_law 1842 = .ok (.iconst 2, 1) := by decide +kernel
theorem dL_law_1843 : decode cL_law 1843 = .ok (.iadd, 1) := by decide +kernel
theorem dL_law_1844 : decode cL_law 1844 = .ok (.iaload, 1) := by decide +kernel
theorem dL_law_1845 : decode cL_law 1845 = .ok (.aload_n 3, 1) := by decide +kernel
theorem dL_law_1846 : decode cL_law 1846 = .ok (.invokestatic 202, 3) := by decide +kernel
theorem dL_law_1849 : decode cL_law 1849 = .ok (.istore 5, 2) := by decide +kernel
theorem dL_law_1851 : decode cL_law 1851 = .ok (.aload_n 2, 1) := by decide +kernel
theorem dL_law_1852 : decode cL_law 1852 = .ok (.aload_n 0, 1) := by decide +kernel
theorem dL_law_1853 : decode cL_law 1853 = .ok (.iload 4, 2) := by decide +kernel
theorem dL_law_1855 : decode cL_law 1855 = .ok (.iconst 1, 1) := by decide +kernel
theorem dL_law_1856 : decode cL_law 1856 = .ok (.iadd, 1) := by decide +kernel
theorem dL_law_1857 : decode cL_law 1857 = .ok (.iaload, 1) := by decide +kernel
theorem dL_law_1858 : decode cL_law 1858 = .ok (.aload_n 0, 1) := by decide +kernel
theorem dL_law_1859 : decode cL_law 1859 = .ok (.iload 4, 2) := by decide +kernel
theorem dL_law_1861 : decode cL_law 1861 = .ok (.iconst 2, 1) := by decide +kernel
theorem dL_law_1862 : decode cL_law 1862 = .ok (.iadd, 1) := by decide +kernel
theorem dL_law_1863 : decode cL_law 1863 = .ok (.iaload, 1) := by decide +kernel
theorem dL_law_1864 : decode cL_law 1864 = .ok (.invokevirtual 204, 3) := by decide +kernel
theorem dL_law_1867 : decode cL_law 1867 = .ok (.istore 6, 2) := by decide +kernel
theorem dL_law_1869 : decode cL_law 1869 = .ok (.aload_n 2, 1) := by decide +kernel
theorem dL_law_1870 : decode cL_law 1870 = .ok (.invokevirtual 108, 3) := by decide +kernel
theorem dL_law_1873 : decode cL_law 1873 = .ok (.iload 5, 2) := by decide +kernel
theorem dL_law_1875 : decode cL_law 1875 = .ok (.if_icmp .eq 5, 3) := by decide +kernel
theorem dL_law_1880 : decode cL_law 1880 = .ok (.iload 5, 2) := by decide +kernel
theorem dL_law_1882 : decode cL_law 1882 = .ok (.ifCond .ne 15, 3) := by decide +kernel
theorem dL_law_1897 : decode cL_law 1897 = .ok (.goto 17, 3) := by decide +kernel
theorem dL_law_1900 : decode cL_law 1900 = .ok (.aload_n 1, 1) := by decide +kernel
theorem dL_law_1901 : decode cL_law 1901 = .ok (.invokevirtual 205, 3) := by decide +kernel
theorem dL_law_1904 : decode cL_law 1904 = .ok (.aload_n 2, 1) := by decide +kernel
theorem dL_law_1905 : decode cL_law 1905 = .ok (.invokevirtual 209, 3) := by decide +kernel
theorem dL_law_1908 : decode cL_law 1908 = .ok (.lcmp, 1) := by decide +kernel
theorem dL_law_1909 : decode cL_law 1909 = .ok (.ifCond .eq 5, 3) := by decide +kernel
theorem dL_law_1914 : decode cL_law 1914 = .ok (.iinc 4 5, 3) := by decide +kernel
theorem dL_law_1917 : decode cL_law 1917 = .ok (.goto (-1894), 3) := by decide +kernel
theorem dL_law_1920 : decode cL_law 1920 = .ok (.iconst 1, 1) := by decide +kernel
theorem dL_law_1921 : decode cL_law 1921 = .ok (.ireturn, 1) := by decide +kernel
theorem dL_line_0 : decode cL_line 0 = .ok (.aload 5, 2) := by decide +kernel
theorem dL_line_2 : decode cL_line 2 = .ok (.iconst 0, 1) := by decide +kernel
theorem dL_line_3 : decode cL_line 3 = .ok (.aload_n 0, 1) := by decide +kernel
theorem dL_line_4 : decode cL_line 4 = .ok (.iload_n 1, 1) := by decide +kernel
theorem dL_line_5 : decode cL_line 5 = .ok (.iload_n 2, 1) := by decide +kernel
theorem dL_line_6 : decode cL_line 6 = .ok (.iload_n 3, 1) := by decide +kernel
theorem dL_line_7 : decode cL_line 7 = .ok (.iload 4, 2) := by decide +kernel
theorem dL_line_9 : decode cL_line 9 = .ok (.invokevirtual 78, 3) := by decide +kernel
theorem dL_line_17 : decode cL_line 17 = .ok (.astore 6, 2) := by decide +kernel
theorem dL_line_19 : decode cL_line 19 = .ok (.iconst 1, 1) := by decide +kernel
theorem dL_line_20 : decode cL_line 20 = .ok (.ireturn, 1) := by decide +kernel
theorem dL_many_0 : decode cL_many 0 = .ok (.aload_n 2, 1) := by decide +kernel
theorem dL_many_1 : decode cL_many 1 = .ok (.iconst 0, 1) := by decide +kernel
theorem dL_many_2 : decode cL_many 2 = .ok (.aload_n 0, 1) := by decide +kernel
theorem dL_many_3 : decode cL_many 3 = .ok (.iload_n 1, 1) := by decide +kernel
theorem dL_many_4 : decode cL_many 4 = .ok (.invokevirtual 49, 3) := by decide +kernel
theorem dL_many_7 : decode cL_many 7 = .ok (.i2l, 1) := by decide +kernel
theorem dL_many_8 : decode cL_many 8 = .ok (.lastore, 1) := by decide +kernel
theorem dL_many_9 : decode cL_many 9 = .ok (.goto 6, 3) := by decide +kernel
theorem dL_many_12 : decode cL_many 12 = .ok (.astore_n 3, 1) := by decide +kernel
theorem dL_many_13 : decode cL_many 13 = .ok (.iconst 1, 1) := by decide +kernel
theorem dL_many_14 : decode cL_many 14 = .ok (.ireturn, 1) := by decide +kernel
theorem dL_many_15 : decode cL_many 15 = .ok (.iconst 0, 1) := by decide +kernel
theorem dL_many_16 : decode cL_many 16 = .ok (.ireturn, 1) := by decide +kernel
theorem dL_meet_0 : decode cL_meet 0 = .ok (.aload_n 3, 1) := by decide +kernel
theorem dL_meet_1 : decode cL_meet 1 = .ok (.iconst 0, 1) := by decide +kernel
theorem dL_meet_2 : decode cL_meet 2 = .ok (.aload_n 0, 1) := by decide +kernel
theorem dL_meet_3 : decode cL_meet 3 = .ok (.iload_n 1, 1) := by decide +kernel
theorem dL_meet_4 : decode cL_meet 4 = .ok (.iload_n 2, 1) := by decide +kernel
theorem dL_meet_5 : decode cL_meet 5 = .ok (.invokevirtual 37, 3) := by decide +kernel
theorem dL_meet_13 : decode cL_meet 13 = .ok (.astore 4, 2) := by decide +kernel
theorem dL_meet_15 : decode cL_meet 15 = .ok (.iconst 1, 1) := by decide +kernel
theorem dL_meet_16 : decode cL_meet 16 = .ok (.ireturn, 1) := by decide +kernel
theorem dL_normal_0 : decode cL_normal 0 = .ok (.aload_n 2, 1) := by decide +kernel
theorem dL_normal_1 : decode cL_normal 1 = .ok (.iconst 0, 1) := by decide +kernel
theorem dL_normal_2 : decode cL_normal 2 = .ok (.aload_n 0, 1) := by decide +kernel
theorem dL_normal_3 : decode cL_normal 3 = .ok (.iload_n 1, 1) := by decide +kernel
theorem dL_normal_4 : decode cL_normal 4 = .ok (.invokevirtual 56, 3) := by decide +kernel
theorem dL_normal_12 : decode cL_normal 12 = .ok (.astore_n 3, 1) := by decide +kernel
theorem dL_normal_13 : decode cL_normal 13 = .ok (.iconst 1, 1) := by decide +kernel
theorem dL_normal_14 : decode cL_normal 14 = .ok (.ireturn, 1) := by decide +kernel
theorem dL_ofTerm_0 : decode cL_ofTerm 0 = .ok (.aload_n 3, 1) := by decide +kernel
theorem dL_ofTerm_1 : decode cL_ofTerm 1 = .ok (.iconst 0, 1) := by decide +kernel
theorem dL_ofTerm_2 : decode cL_ofTerm 2 = .ok (.aload_n 0, 1) := by decide +kernel
theorem dL_ofTerm_3 : decode cL_ofTerm 3 = .ok (.iload_n 1, 1) := by decide +kernel
theorem dL_ofTerm_4 : decode cL_ofTerm 4 = .ok (.iload_n 2, 1) := by decide +kernel
theorem dL_ofTerm_5 : decode cL_ofTerm 5 = .ok (.invokevirtual 23, 3) := by decide +kernel
theorem dL_ofTerm_13 : decode cL_ofTerm 13 = .ok (.astore 4, 2) := by decide +kernel
theorem dL_ofTerm_15 : decode cL_ofTerm 15 = .ok (.iconst 1, 1) := by decide +kernel
theorem dL_ofTerm_16 : decode cL_ofTerm 16 = .ok (.ireturn, 1) := by decide +kernel
theorem dL_overlaps_0 : decode cL_overlaps 0 = .ok (.aload_n 3, 1) := by decide +kernel
theorem dL_overlaps_1 : decode cL_overlaps 1 = .ok (.iconst 0, 1) := by decide +kernel
theorem dL_overlaps_2 : decode cL_overlaps 2 = .ok (.aload_n 0, 1) := by decide +kernel
theorem dL_overlaps_3 : decode cL_overlaps 3 = .ok (.iload_n 1, 1) := by decide +kernel
theorem dL_overlaps_4 : decode cL_overlaps 4 = .ok (.iload_n 2, 1) := by decide +kernel
theorem dL_overlaps_5 : decode cL_overlaps 5 = .ok (.invokevirtual 65, 3) := by decide +kernel
theorem dL_overlaps_13 : decode cL_overlaps 13 = .ok (.astore 4, 2) := by decide +kernel
theorem dL_overlaps_15 : decode cL_overlaps 15 = .ok (.iconst 1, 1) := by decide +kernel
theorem dL_overlaps_16 : decode cL_overlaps 16 = .ok (.ireturn, 1) := by decide +kernel
theorem dL_proof_0 : decode cL_proof 0 = .ok (.aload_n 3, 1) := by decide +kernel
theorem dL_proof_1 : decode cL_proof 1 = .ok (.iconst 0, 1) := by decide +kernel
theorem dL_proof_2 : decode cL_proof 2 = .ok (.aload_n 0, 1) := by decide +kernel
theorem dL_proof_3 : decode cL_proof 3 = .ok (.iload_n 1, 1) := by decide +kernel
theorem dL_proof_4 : decode cL_proof 4 = .ok (.iload_n 2, 1) := by decide +kernel
theorem dL_proof_5 : decode cL_proof 5 = .ok (.invokevirtual 75, 3) := by decide +kernel
theorem dL_proof_13 : decode cL_proof 13 = .ok (.astore 4, 2) := by decide +kernel
theorem dL_proof_15 : decode cL_proof 15 = .ok (.iconst 1, 1) := by decide +kernel
theorem dL_proof_16 : decode cL_proof 16 = .ok (.ireturn, 1) := by decide +kernel
theorem dL_rule_0 : decode cL_rule 0 = .ok (.aload_n 3, 1) := by decide +kernel
theorem dL_rule_1 : decode cL_rule 1 = .ok (.iconst 0, 1) := by decide +kernel
theorem dL_rule_2 : decode cL_rule 2 = .ok (.aload_n 0, 1) := by decide +kernel
theorem dL_rule_3 : decode cL_rule 3 = .ok (.iload_n 1, 1) := by decide +kernel
theorem dL_rule_4 : decode cL_rule 4 = .ok (.iload_n 2, 1) := by decide +kernel
theorem dL_rule_5 : decode cL_rule 5 = .ok (.invokevirtual 52, 3) := by decide +kernel
theorem dL_rule_13 : decode cL_rule 13 = .ok (.astore 4, 2) := by decide +kernel
theorem dL_rule_15 : decode cL_rule 15 = .ok (.iconst 1, 1) := by decide +kernel
theorem dL_rule_16 : decode cL_rule 16 = .ok (.ireturn, 1) := by decide +kernel
theorem dL_rulesAfter_0 : decode cL_rulesAfter 0 = .ok (.aload_n 2, 1) := by decide +kernel
theorem dL_rulesAfter_1 : decode cL_rulesAfter 1 = .ok (.iconst 0, 1) := by decide +kernel
theorem dL_rulesAfter_2 : decode cL_rulesAfter 2 = .ok (.aload_n 0, 1) := by decide +kernel
theorem dL_rulesAfter_3 : decode cL_rulesAfter 3 = .ok (.iload_n 1, 1) := by decide +kernel
theorem dL_rulesAfter_4 : decode cL_rulesAfter 4 = .ok (.invokevirtual 92, 3) := by decide +kernel
theorem dL_rulesAfter_7 : decode cL_rulesAfter 7 = .ok (.i2l, 1) := by decide +kernel
theorem dL_rulesAfter_8 : decode cL_rulesAfter 8 = .ok (.lastore, 1) := by decide +kernel
theorem dL_rulesAfter_9 : decode cL_rulesAfter 9 = .ok (.goto 6, 3) := by decide +kernel
theorem dL_rulesAfter_12 : decode cL_rulesAfter 12 = .ok (.astore_n 3, 1) := by decide +kernel
theorem dL_rulesAfter_13 : decode cL_rulesAfter 13 = .ok (.iconst 1, 1) := by decide +kernel
theorem dL_rulesAfter_14 : decode cL_rulesAfter 14 = .ok (.ireturn, 1) := by decide +kernel
theorem dL_rulesAfter_15 : decode cL_rulesAfter 15 = .ok (.iconst 0, 1) := by decide +kernel
theorem dL_rulesAfter_16 : decode cL_rulesAfter 16 = .ok (.ireturn, 1) := by decide +kernel
theorem dL_sizeWithout_0 : decode cL_sizeWithout 0 = .ok (.aload_n 3, 1) := by decide +kernel
theorem dL_sizeWithout_1 : decode cL_sizeWithout 1 = .ok (.iconst 0, 1) := by decide +kernel
theorem dL_sizeWithout_2 : decode cL_sizeWithout 2 = .ok (.aload_n 0, 1) := by decide +kernel
theorem dL_sizeWithout_3 : decode cL_sizeWithout 3 = .ok (.iload_n 1, 1) := by decide +kernel
theorem dL_sizeWithout_4 : decode cL_sizeWithout 4 = .ok (.iload_n 2, 1) := by decide +kernel
theorem dL_sizeWithout_5 : decode cL_sizeWithout 5 = .ok (.invokevirtual 95, 3) := by decide +kernel
theorem dL_sizeWithout_13 : decode cL_sizeWithout 13 = .ok (.astore 4, 2) := by decide +kernel
theorem dL_sizeWithout_15 : decode cL_sizeWithout 15 = .ok (.iconst 1, 1) := by decide +kernel
theorem dL_sizeWithout_16 : decode cL_sizeWithout 16 = .ok (.ireturn, 1) := by decide +kernel
theorem dL_steps_0 : decode cL_steps 0 = .ok (.aload_n 2, 1) := by decide +kernel
theorem dL_steps_1 : decode cL_steps 1 = .ok (.iconst 0, 1) := by decide +kernel
theorem dL_steps_2 : decode cL_steps 2 = .ok (.aload_n 0, 1) := by decide +kernel
theorem dL_steps_3 : decode cL_steps 3 = .ok (.iload_n 1, 1) := by decide +kernel
theorem dL_steps_4 : decode cL_steps 4 = .ok (.invokevirtual 59, 3) := by decide +kernel
theorem dL_steps_12 : decode cL_steps 12 = .ok (.astore_n 3, 1) := by decide +kernel
theorem dL_steps_13 : decode cL_steps 13 = .ok (.iconst 1, 1) := by decide +kernel
theorem dL_steps_14 : decode cL_steps 14 = .ok (.ireturn, 1) := by decide +kernel
theorem dL_term_0 : decode cL_term 0 = .ok (.aload 4, 2) := by decide +kernel
theorem dL_term_2 : decode cL_term 2 = .ok (.iconst 0, 1) := by decide +kernel
theorem dL_term_3 : decode cL_term 3 = .ok (.aload_n 0, 1) := by decide +kernel
theorem dL_term_4 : decode cL_term 4 = .ok (.iload_n 1, 1) := by decide +kernel
theorem dL_term_5 : decode cL_term 5 = .ok (.iload_n 2, 1) := by decide +kernel
theorem dL_term_6 : decode cL_term 6 = .ok (.iload_n 3, 1) := by decide +kernel
theorem dL_term_7 : decode cL_term 7 = .ok (.invokevirtual 17, 3) := by decide +kernel
theorem dL_term_10 : decode cL_term 10 = .ok (.i2l, 1) := by decide +kernel
theorem dL_term_11 : decode cL_term 11 = .ok (.lastore, 1) := by decide +kernel
theorem dL_term_12 : decode cL_term 12 = .ok (.goto 15, 3) := by decide +kernel
theorem dL_term_15 : decode cL_term 15 = .ok (.astore 5, 2) := by decide +kernel
theorem dL_term_17 : decode cL_term 17 = .ok (.iconst 1, 1) := by decide +kernel
theorem dL_term_18 : decode cL_term 18 = .ok (.ireturn, 1) := by decide +kernel
theorem dL_term_19 : decode cL_term 19 = .ok (.astore 5, 2) := by decide +kernel
theorem dL_term_21 : decode cL_term 21 = .ok (.iconst 2, 1) := by decide +kernel
theorem dL_term_22 : decode cL_term 22 = .ok (.ireturn, 1) := by decide +kernel
theorem dL_term_27 : decode cL_term 27 = .ok (.iconst 0, 1) := by decide +kernel
theorem dL_term_28 : decode cL_term 28 = .ok (.ireturn, 1) := by decide +kernel
theorem dL_unline_0 : decode cL_unline 0 = .ok (.aload_n 1, 1) := by decide +kernel
theorem dL_unline_1 : decode cL_unline 1 = .ok (.iconst 0, 1) := by decide +kernel
theorem dL_unline_2 : decode cL_unline 2 = .ok (.aload_n 0, 1) := by decide +kernel
theorem dL_unline_3 : decode cL_unline 3 = .ok (.invokevirtual 82, 3) := by decide +kernel
theorem dL_unline_11 : decode cL_unline 11 = .ok (.astore_n 2, 1) := by decide +kernel
theorem dL_unline_12 : decode cL_unline 12 = .ok (.iconst 1, 1) := by decide +kernel
theorem dL_unline_13 : decode cL_unline 13 = .ok (.ireturn, 1) := by decide +kernel
theorem dL_variable_0 : decode cL_variable 0 = .ok (.aload_n 2, 1) := by decide +kernel
theorem dL_variable_1 : decode cL_variable 1 = .ok (.iconst 0, 1) := by decide +kernel
theorem dL_variable_2 : decode cL_variable 2 = .ok (.aload_n 0, 1) := by decide +kernel
theorem dL_variable_3 : decode cL_variable 3 = .ok (.iload_n 1, 1) := by decide +kernel
theorem dL_variable_4 : decode cL_variable 4 = .ok (.invokevirtual 7, 3) := by decide +kernel
theorem dL_variable_7 : decode cL_variable 7 = .ok (.i2l, 1) := by decide +kernel
theorem dL_variable_8 : decode cL_variable 8 = .ok (.lastore, 1) := by decide +kernel
theorem dL_variable_9 : decode cL_variable 9 = .ok (.goto 9, 3) := by decide +kernel
theorem dL_variable_12 : decode cL_variable 12 = .ok (.astore_n 3, 1) := by decide +kernel
theorem dL_variable_13 : decode cL_variable 13 = .ok (.iconst 1, 1) := by decide +kernel
theorem dL_variable_14 : decode cL_variable 14 = .ok (.ireturn, 1) := by decide +kernel
theorem dL_variable_18 : decode cL_variable 18 = .ok (.iconst 0, 1) := by decide +kernel
theorem dL_variable_19 : decode cL_variable 19 = .ok (.ireturn, 1) := by decide +kernel
theorem dX0_doSteps_0 : decode cX0_doSteps 0 = .ok (.iconst 0, 1) := by decide +kernel
theorem dX0_doSteps_1 : decode cX0_doSteps 1 = .ok (.istore_n 3, 1) := by decide +kernel
theorem dX0_doSteps_2 : decode cX0_doSteps 2 = .ok (.iload_n 3, 1) := by decide +kernel
theorem dX0_doSteps_3 : decode cX0_doSteps 3 = .ok (.iload_n 2, 1) := by decide +kernel
theorem dX0_doSteps_4 : decode cX0_doSteps 4 = .ok (.if_icmp .ge 65, 3) := by decide +kernel
theorem dX0_doSteps_7 : decode cX0_doSteps 7 = .ok (.aload_n 1, 1) := by decide +kernel
theorem dX0_doSteps_8 : decode cX0_doSteps 8 = .ok (.getfield 33, 3) := by decide +kernel
theorem dX0_doSteps_11 : decode cX0_doSteps 11 = .ok (.ifCond .le 58, 3) := by decide +kernel
theorem dX0_doSteps_69 : decode cX0_doSteps 69 = .ok (.return_, 1) := by decide +kernel
theorem dX0_init_0 : decode cX0_init 0 = .ok (.aload_n 0, 1) := by decide +kernel
theorem dX0_init_1 : decode cX0_init 1 = .ok (.invokespecial 3, 3) := by decide +kernel
theorem dX0_init_4 : decode cX0_init 4 = .ok (.aload_n 0, 1) := by decide +kernel
theorem dX0_init_5 : decode cX0_init 5 = .ok (.new 9, 3) := by decide +kernel
theorem dX0_init_8 : decode cX0_init 8 = .ok (.dup, 1) := by decide +kernel
theorem dX0_init_9 : decode cX0_init 9 = .ok (.invokespecial 11, 3) := by decide +kernel
theorem dX0_init_12 : decode cX0_init 12 = .ok (.putfield 12, 3) := by decide +kernel
theorem dX0_init_15 : decode cX0_init 15 = .ok (.aload_n 0, 1) := by decide +kernel
theorem dX0_init_16 : decode cX0_init 16 = .ok (.bipush 12, 2) := by decide +kernel
theorem dX0_init_18 : decode cX0_init 18 = .ok (.newarray .long, 2) := by decide +kernel
theorem dX0_init_20 : decode cX0_init 20 = .ok (.putfield 18, 3) := by decide +kernel
theorem dX0_init_23 : decode cX0_init 23 = .ok (.aload_n 0, 1) := by decide +kernel
theorem dX0_init_24 : decode cX0_init 24 = .ok (.bipush 12, 2) := by decide +kernel
theorem dX0_init_26 : decode cX0_init 26 = .ok (.newarray .long, 2) := by decide +kernel
theorem dX0_init_28 : decode cX0_init 28 = .ok (.putfield 22, 3) := by decide +kernel
theorem dX0_init_31 : decode cX0_init 31 = .ok (.aload_n 0, 1) := by decide +kernel
theorem dX0_init_32 : decode cX0_init 32 = .ok (.aload_n 1, 1) := by decide +kernel
theorem dX0_init_33 : decode cX0_init 33 = .ok (.putfield 25, 3) := by decide +kernel
theorem dX0_init_36 : decode cX0_init 36 = .ok (.aload_n 0, 1) := by decide +kernel
theorem dX0_init_37 : decode cX0_init 37 = .ok (.aload_n 2, 1) := by decide +kernel
theorem dX0_init_38 : decode cX0_init 38 = .ok (.putfield 29, 3) := by decide +kernel
theorem dX0_init_41 : decode cX0_init 41 = .ok (.return_, 1) := by decide +kernel
theorem dX10_areEqual_0 : decode cX10_areEqual 0 = .ok (.aload_n 0, 1) := by decide +kernel
theorem dX10_areEqual_1 : decode cX10_areEqual 1 = .ok (.iload_n 1, 1) := by decide +kernel
theorem dX10_areEqual_2 : decode cX10_areEqual 2 = .ok (.invokevirtual 97, 3) := by decide +kernel
theorem dX10_at_0 : decode cX10_at 0 = .ok (.aload_n 0, 1) := by decide +kernel
theorem dX10_at_1 : decode cX10_at 1 = .ok (.iload_n 1, 1) := by decide +kernel
theorem dX10_at_2 : decode cX10_at 2 = .ok (.invokevirtual 97, 3) := by decide +kernel
theorem dX10_compare_0 : decode cX10_compare 0 = .ok (.aload_n 0, 1) := by decide +kernel
theorem dX10_compare_1 : decode cX10_compare 1 = .ok (.iload_n 1, 1) := by decide +kernel
theorem dX10_compare_2 : decode cX10_compare 2 = .ok (.invokevirtual 97, 3) := by decide +kernel
theorem dX10_complete_0 : decode cX10_complete 0 = .ok (.aload_n 0, 1) := by decide +kernel
theorem dX10_complete_1 : decode cX10_complete 1 = .ok (.iload_n 1, 1) := by decide +kernel
theorem dX10_complete_2 : decode cX10_complete 2 = .ok (.invokevirtual 164, 3) := by decide +kernel
theorem dX10_complete_5 : decode cX10_complete 5 = .ok (.aload_n 0, 1) := by decide +kernel
theorem dX10_complete_6 : decode cX10_complete 6 = .ok (.getfield 28, 3) := by decide +kernel
theorem dX10_complete_9 : decode cX10_complete 9 = .ok (.aload_n 0, 1) := by decide +kernel
theorem dX10_complete_10 : decode cX10_complete 10 = .ok (.getfield 35, 3) := by decide +kernel
theorem dX10_complete_13 : decode cX10_complete 13 = .ok (.iload_n 1, 1) := by decide +kernel
theorem dX10_complete_14 : decode cX10_complete 14 = .ok (.invokevirtual 167, 3) := by decide +kernel
theorem dX10_complete_17 : decode cX10_complete 17 = .ok (.aload_n 0, 1) := by decide +kernel
theorem dX10_complete_18 : decode cX10_complete 18 = .ok (.getfield 45, 3) := by decide +kernel
theorem dX10_complete_21 : decode cX10_complete 21 = .ok (.invokevirtual 171, 3) := by decide +kernel
theorem dX10_complete_24 : decode cX10_complete 24 = .ok (.aload_n 0, 1) := by decide +kernel
theorem dX10_complete_25 : decode cX10_complete 25 = .ok (.getfield 35, 3) := by decide +kernel
theorem dX10_complete_28 : decode cX10_complete 28 = .ok (.getfield 174, 3) := by decide +kernel
theorem dX10_complete_31 : decode cX10_complete 31 = .ok (.ireturn, 1) := by decide +kernel
theorem dX10_digest_0 : decode cX10_digest 0 = .ok (.ldc2_w 280, 3) := by decide +kernel
theorem dX10_digest_3 : decode cX10_digest 3 = .ok (.aload_n 0, 1) := by decide +kernel
theorem dX10_digest_4 : decode cX10_digest 4 = .ok (.getfield 45, 3) := by decide +kernel
theorem dX10_digest_7 : decode cX10_digest 7 = .ok (.getfield 116, 3) := by decide +kernel
theorem dX10_digest_10 : decode cX10_digest 10 = .ok (.i2l, 1) := by decide +kernel
theorem dX10_digest_11 : decode cX10_digest 11 = .ok (.invokestatic 282, 3) := by decide +kernel
theorem dX10_digest_14 : decode cX10_digest 14 = .ok (.lstore_n 1, 1) := by decide +kernel
theorem dX10_digest_15 : decode cX10_digest 15 = .ok (.iconst 0, 1) := by decide +kernel
theorem dX10_digest_16 : decode cX10_digest 16 = .ok (.istore_n 3, 1) := by decide +kernel
theorem dX10_digest_17 : decode cX10_digest 17 = .ok (.iload_n 3, 1) := by decide +kernel
theorem dX10_digest_18 : decode cX10_digest 18 = .ok (.iconst 4, 1) := by decide +kernel
theorem dX10_digest_19 : decode cX10_digest 19 = .ok (.if_icmp .gt 23, 3) := by decide +kernel
theorem dX10_digest_22 : decode cX10_digest 22 = .ok (.lload_n 1, 1) := by decide +kernel
theorem dX10_digest_23 : decode cX10_digest 23 = .ok (.aload_n 0, 1) := by decide +kernel
theorem dX10_digest_24 : decode cX10_digest 24 = .ok (.getfield 35, 3) := by decide +kernel
theorem dX10_digest_27 : decode cX10_digest 27 = .ok (.iload_n 3, 1) := by decide +kernel
theorem dX10_digest_28 : decode cX10_digest 28 = .ok (.invokevirtual 185, 3) := by decide +kernel
theorem dX10_digest_31 : decode cX10_digest 31 = .ok (.i2l, 1) := by decide +kernel
theorem dX10_digest_32 : decode cX10_digest 32 = .ok (.invokestatic 282, 3) := by decide +kernel
theorem dX10_digest_35 : decode cX10_digest 35 = .ok (.lstore_n 1, 1) := by decide +kernel
theorem dX10_digest_36 : decode cX10_digest 36 = .ok (.iinc 3 1, 3) := by decide +kernel
theorem dX10_digest_39 : decode cX10_digest 39 = .ok (.goto (-22), 3) := by decide +kernel
theorem dX10_digest_42 : decode cX10_digest 42 = .ok (.iconst 0, 1) := by decide +kernel
theorem dX10_digest_43 : decode cX10_digest 43 = .ok (.istore_n 3, 1) := by decide +kernel
theorem dX10_digest_44 : decode cX10_digest 44 = .ok (.iload_n 3, 1) := by decide +kernel
theorem dX10_digest_45 : decode cX10_digest 45 = .ok (.aload_n 0, 1) := by decide +kernel
theorem dX10_digest_46 : decode cX10_digest 46 = .ok (.getfield 35, 3) := by decide +kernel
theorem dX10_digest_49 : decode cX10_digest 49 = .ok (.getfield 174, 3) := by decide +kernel
theorem dX10_digest_52 : decode cX10_digest 52 = .ok (.if_icmp .ge 35, 3) := by decide +kernel
theorem dX10_digest_87 : decode cX10_digest 87 = .ok (.iconst 0, 1) := by decide +kernel
theorem dX10_digest_88 : decode cX10_digest 88 = .ok (.istore_n 3, 1) := by decide +kernel
theorem dX10_digest_89 : decode cX10_digest 89 = .ok (.iload_n 3, 1) := by decide +kernel
theorem dX10_digest_90 : decode cX10_digest 90 = .ok (.aload_n 0, 1) := by decide +kernel
theorem dX10_digest_91 : decode cX10_digest 91 = .ok (.getfield 45, 3) := by decide +kernel
theorem dX10_digest_94 : decode cX10_digest 94 = .ok (.getfield 116, 3) := by decide +kernel
theorem dX10_digest_97 : decode cX10_digest 97 = .ok (.if_icmp .ge 58, 3) := by decide +kernel
theorem dX10_digest_155 : decode cX10_digest 155 = .ok (.aload_n 0, 1) := by decide +kernel
theorem dX10_digest_156 : decode cX10_digest 156 = .ok (.invokevirtual 228, 3) := by decide +kernel
theorem dX10_digest_159 : decode cX10_digest 159 = .ok (.iconst 0, 1) := by decide +kernel
theorem dX10_digest_160 : decode cX10_digest 160 = .ok (.istore_n 3, 1) := by decide +kernel
theorem dX10_digest_161 : decode cX10_digest 161 = .ok (.iload_n 3, 1) := by decide +kernel
theorem dX10_digest_162 : decode cX10_digest 162 = .ok (.aload_n 0, 1) := by decide +kernel
theorem dX10_digest_163 : decode cX10_digest 163 = .ok (.getfield 52, 3) := by decide +kernel
theorem dX10_digest_166 : decode cX10_digest 166 = .ok (.getfield 224, 3) := by decide +kernel
theorem dX10_digest_169 : decode cX10_digest 169 = .ok (.if_icmp .ge 76, 3) := by decide +kernel
theorem dX10_digest_245 : decode cX10_digest 245 = .ok (.aload_n 0, 1) := by decide +kernel
theorem dX10_digest_246 : decode cX10_digest 246 = .ok (.getfield 70, 3) := by decide +kernel
theorem dX10_digest_249 : decode cX10_digest 249 = .ok (.aload_n 0, 1) := by decide +kernel
theorem dX10_digest_250 : decode cX10_digest 250 = .ok (.getfield 70, 3) := by decide +kernel
theorem dX10_digest_253 : decode cX10_digest 253 = .ok (.getfield 260, 3) := by decide +kernel
theorem dX10_digest_256 : decode cX10_digest 256 = .ok (.iconst 1, 1) := by decide +kernel
theorem dX10_digest_257 : decode cX10_digest 257 = .ok (.isub, 1) := by decide +kernel
theorem dX10_digest_258 : decode cX10_digest 258 = .ok (.invokevirtual 263, 3) := by decide +kernel
theorem dX10_digest_261 : decode cX10_digest 261 = .ok (.iconst 0, 1) := by decide +kernel
theorem dX10_digest_262 : decode cX10_digest 262 = .ok (.istore_n 3, 1) := by decide +kernel
theorem dX10_digest_263 : decode cX10_digest 263 = .ok (.iload_n 3, 1) := by decide +kernel
theorem dX10_digest_264 : decode cX10_digest 264 = .ok (.aload_n 0, 1) := by decide +kernel
theorem dX10_digest_265 : decode cX10_digest 265 = .ok (.getfield 70, 3) := by decide +kernel
theorem dX10_digest_268 : decode cX10_digest 268 = .ok (.getfield 260, 3) := by decide +kernel
theorem dX10_digest_271 : decode cX10_digest 271 = .ok (.if_icmp .ge 45, 3) := by decide +kernel
theorem dX10_digest_316 : decode cX10_digest 316 = .ok (.lload_n 1, 1) := by decide +kernel
theorem dX10_digest_317 : decode cX10_digest 317 = .ok (.lreturn, 1) := by decide +kernel
theorem dX10_dropRule_0 : decode cX10_dropRule 0 = .ok (.aload_n 0, 1) := by decide +kernel
theorem dX10_dropRule_1 : decode cX10_dropRule 1 = .ok (.iload_n 1, 1) := by decide +kernel
theorem dX10_dropRule_2 : decode cX10_dropRule 2 = .ok (.invokevirtual 177, 3) := by decide +kernel
theorem dX10_equation_0 : decode cX10_equation 0 = .ok (.aload_n 0, 1) := by decide +kernel
theorem dX10_equation_1 : decode cX10_equation 1 = .ok (.iload_n 1, 1) := by decide +kernel
theorem dX10_equation_2 : decode cX10_equation 2 = .ok (.invokevirtual 97, 3) := by decide +kernel
theorem dX10_findNormalsOfEqualities_0 : decode cX10_findNormalsOfEqualities 0 = .ok (.iconst 0, 1) := by decide +kernel
theorem dX10_findNormalsOfEqualities_1 : decode cX10_findNormalsOfEqualities 1 = .ok (.istore_n 1, 1) := by decide +kernel
theorem dX10_findNormalsOfEqualities_2 : decode cX10_findNormalsOfEqualities 2 = .ok (.iload_n 1, 1) := by decide +kernel
theorem dX10_findNormalsOfEqualities_3 : decode cX10_findNormalsOfEqualities 3 = .ok (.aload_n 0, 1) := by decide +kernel
theorem dX10_findNormalsOfEqualities_4 : decode cX10_findNormalsOfEqualities 4 = .ok (.getfield 52, 3) := by decide +kernel
theorem dX10_findNormalsOfEqualities_7 : decode cX10_findNormalsOfEqualities 7 = .ok (.getfield 224, 3) := by decide +kernel
theorem dX10_findNormalsOfEqualities_10 : decode cX10_findNormalsOfEqualities 10 = .ok (.if_icmp .ge 48, 3) := by decide +kernel
theorem dX10_findNormalsOfEqualities_58 : decode cX10_findNormalsOfEqualities 58 = .ok (.return_, 1) := by decide +kernel
theorem dX10_firstWrong_0 : decode cX10_firstWrong 0 = .ok (.aload_n 0, 1) := by decide +kernel
theorem dX10_firstWrong_1 : decode cX10_firstWrong 1 = .ok (.invokevirtual 228, 3) := by decide +kernel
theorem dX10_firstWrong_4 : decode cX10_firstWrong 4 = .ok (.aload_n 0, 1) := by decide +kernel
theorem dX10_firstWrong_5 : decode cX10_firstWrong 5 = .ok (.getfield 70, 3) := by decide +kernel
theorem dX10_firstWrong_8 : decode cX10_firstWrong 8 = .ok (.aload_n 0, 1) := by decide +kernel
theorem dX10_firstWrong_9 : decode cX10_firstWrong 9 = .ok (.getfield 70, 3) := by decide +kernel
theorem dX10_firstWrong_12 : decode cX10_firstWrong 12 = .ok (.getfield 260, 3) := by decide +kernel
theorem dX10_firstWrong_15 : decode cX10_firstWrong 15 = .ok (.iconst 1, 1) := by decide +kernel
theorem dX10_firstWrong_16 : decode cX10_firstWrong 16 = .ok (.isub, 1) := by decide +kernel
theorem dX10_firstWrong_17 : decode cX10_firstWrong 17 = .ok (.invokevirtual 263, 3) := by decide +kernel
theorem dX10_firstWrong_20 : decode cX10_firstWrong 20 = .ok (.iconst 0, 1) := by decide +kernel
theorem dX10_firstWrong_21 : decode cX10_firstWrong 21 = .ok (.istore_n 1, 1) := by decide +kernel
theorem dX10_firstWrong_22 : decode cX10_firstWrong 22 = .ok (.iload_n 1, 1) := by decide +kernel
theorem dX10_firstWrong_23 : decode cX10_firstWrong 23 = .ok (.aload_n 0, 1) := by decide +kernel
theorem dX10_firstWrong_24 : decode cX10_firstWrong 24 = .ok (.getfield 70, 3) := by decide +kernel
theorem dX10_firstWrong_27 : decode cX10_firstWrong 27 = .ok (.getfield 260, 3) := by decide +kernel
theorem dX10_firstWrong_30 : decode cX10_firstWrong 30 = .ok (.if_icmp .ge 23, 3) := by decide +kernel
theorem dX10_firstWrong_53 : decode cX10_firstWrong 53 = .ok (.iconst (-1), 1) := by decide +kernel
theorem dX10_firstWrong_54 : decode cX10_firstWrong 54 = .ok (.ireturn, 1) := by decide +kernel
theorem dX10_fits_0 : decode cX10_fits 0 = .ok (.aload_n 0, 1) := by decide +kernel
theorem dX10_fits_1 : decode cX10_fits 1 = .ok (.iload_n 1, 1) := by decide +kernel
theorem dX10_fits_2 : decode cX10_fits 2 = .ok (.invokevirtual 97, 3) := by decide +kernel
theorem dX10_formula_0 : decode cX10_formula 0 = .ok (.aload_n 0, 1) := by decide +kernel
theorem dX10_formula_1 : decode cX10_formula 1 = .ok (.iload_n 1, 1) := by decide +kernel
theorem dX10_formula_2 : decode cX10_formula 2 = .ok (.iload_n 2, 1) := by decide +kernel
theorem dX10_formula_3 : decode cX10_formula 3 = .ok (.iload_n 3, 1) := by decide +kernel
theorem dX10_formula_4 : decode cX10_formula 4 = .ok (.invokevirtual 205, 3) := by decide +kernel
theorem dX10_formula_7 : decode cX10_formula 7 = .ok (.iload_n 1, 1) := by decide +kernel
theorem dX10_formula_8 : decode cX10_formula 8 = .ok (.ifCond .lt 8, 3) := by decide +kernel
theorem dX10_formula_11 : decode cX10_formula 11 = .ok (.iload_n 1, 1) := by decide +kernel
theorem dX10_formula_12 : decode cX10_formula 12 = .ok (.iconst 5, 1) := by decide +kernel
theorem dX10_formula_13 : decode cX10_formula 13 = .ok (.if_icmp .le 13, 3) := by decide +kernel
theorem dX10_formula_16 : decode cX10_formula 16 = .ok (.new 74, 3) := by decide +kernel
theorem dX10_formula_19 : decode cX10_formula 19 = .ok (.dup, 1) := by decide +kernel
theorem dX10_formula_20 : decode cX10_formula 20 = .ok (.ldc 209, 2) := by decide +kernel
theorem dX10_formula_22 : decode cX10_formula 22 = .ok (.invokespecial 78, 3) := by decide +kernel
theorem dX10_formula_25 : decode cX10_formula 25 = .ok (.athrow, 1) := by decide +kernel
theorem dX10_formula_26 : decode cX10_formula 26 = .ok (.iload_n 1, 1) := by decide +kernel
theorem dX10_formula_27 : decode cX10_formula 27 = .ok (.ifCond .ne 23, 3) := by decide +kernel
theorem dX10_formula_30 : decode cX10_formula 30 = .ok (.iload_n 2, 1) := by decide +kernel
theorem dX10_formula_31 : decode cX10_formula 31 = .ok (.ifCond .lt 9, 3) := by decide +kernel
theorem dX10_formula_34 : decode cX10_formula 34 = .ok (.iload_n 2, 1) := by decide +kernel
theorem dX10_formula_35 : decode cX10_formula 35 = .ok (.bipush 6, 2) := by decide +kernel
theorem dX10_formula_37 : decode cX10_formula 37 = .ok (.if_icmp .lt 13, 3) := by decide +kernel
theorem dX10_formula_40 : decode cX10_formula 40 = .ok (.new 74, 3) := by decide +kernel
theorem dX10_formula_43 : decode cX10_formula 43 = .ok (.dup, 1) := by decide +kernel
theorem dX10_formula_44 : decode cX10_formula 44 = .ok (.ldc 211, 2) := by decide +kernel
theorem dX10_formula_46 : decode cX10_formula 46 = .ok (.invokespecial 78, 3) := by decide +kernel
theorem dX10_formula_49 : decode cX10_formula 49 = .ok (.athrow, 1) := by decide +kernel
theorem dX10_formula_50 : decode cX10_formula 50 = .ok (.aload_n 0, 1) := by decide +kernel
theorem dX10_formula_51 : decode cX10_formula 51 = .ok (.getfield 52, 3) := by decide +kernel
theorem dX10_formula_54 : decode cX10_formula 54 = .ok (.iload_n 1, 1) := by decide +kernel
theorem dX10_formula_55 : decode cX10_formula 55 = .ok (.iload_n 2, 1) := by decide +kernel
theorem dX10_formula_56 : decode cX10_formula 56 = .ok (.iload_n 3, 1) := by decide +kernel
theorem dX10_formula_57 : decode cX10_formula 57 = .ok (.invokevirtual 213, 3) := by decide +kernel
theorem dX10_formula_60 : decode cX10_formula 60 = .ok (.bipush 6, 2) := by decide +kernel
theorem dX10_formula_62 : decode cX10_formula 62 = .ok (.if_icmp .le 13, 3) := by decide +kernel
theorem dX10_formula_75 : decode cX10_formula 75 = .ok (.aload_n 0, 1) := by decide +kernel
theorem dX10_formula_76 : decode cX10_formula 76 = .ok (.getfield 52, 3) := by decide +kernel
theorem dX10_formula_79 : decode cX10_formula 79 = .ok (.iload_n 1, 1) := by decide +kernel
theorem dX10_formula_80 : decode cX10_formula 80 = .ok (.iload_n 2, 1) := by decide +kernel
theorem dX10_formula_81 : decode cX10_formula 81 = .ok (.iload_n 1, 1) := by decide +kernel
theorem dX10_formula_82 : decode cX10_formula 82 = .ok (.ifCond .eq 8, 3) := by decide +kernel
theorem dX10_formula_90 : decode cX10_formula 90 = .ok (.iconst 0, 1) := by decide +kernel
theorem dX10_formula_91 : decode cX10_formula 91 = .ok (.goto 4, 3) := by decide +kernel
theorem dX10_formula_95 : decode cX10_formula 95 = .ok (.invokevirtual 219, 3) := by decide +kernel
theorem dX10_formula_98 : decode cX10_formula 98 = .ok (.istore 4, 2) := by decide +kernel
theorem dX10_formula_100 : decode cX10_formula 100 = .ok (.iload 4, 2) := by decide +kernel
theorem dX10_formula_102 : decode cX10_formula 102 = .ok (.ifCond .ge 13, 3) := by decide +kernel
theorem dX10_formula_115 : decode cX10_formula 115 = .ok (.iload 4, 2) := by decide +kernel
theorem dX10_formula_117 : decode cX10_formula 117 = .ok (.ireturn, 1) := by decide +kernel
theorem dX10_formulas_0 : decode cX10_formulas 0 = .ok (.aload_n 0, 1) := by decide +kernel
theorem dX10_formulas_1 : decode cX10_formulas 1 = .ok (.getfield 52, 3) := by decide +kernel
theorem dX10_formulas_4 : decode cX10_formulas 4 = .ok (.getfield 224, 3) := by decide +kernel
theorem dX10_formulas_7 : decode cX10_formulas 7 = .ok (.ireturn, 1) := by decide +kernel
theorem dX10_given_0 : decode cX10_given 0 = .ok (.aload_n 0, 1) := by decide +kernel
theorem dX10_given_1 : decode cX10_given 1 = .ok (.iload_n 1, 1) := by decide +kernel
theorem dX10_given_2 : decode cX10_given 2 = .ok (.invokevirtual 249, 3) := by decide +kernel
theorem dX10_init_0 : decode cX10_init 0 = .ok (.aload_n 0, 1) := by decide +kernel
theorem dX10_init_1 : decode cX10_init 1 = .ok (.invokespecial 1, 3) := by decide +kernel
theorem dX10_init_4 : decode cX10_init 4 = .ok (.aload_n 0, 1) := by decide +kernel
theorem dX10_init_5 : decode cX10_init 5 = .ok (.new 7, 3) := by decide +kernel
theorem dX10_init_8 : decode cX10_init 8 = .ok (.dup, 1) := by decide +kernel
theorem dX10_init_9 : decode cX10_init 9 = .ok (.invokespecial 9, 3) := by decide +kernel
theorem dX10_init_12 : decode cX10_init 12 = .ok (.putfield 10, 3) := by decide +kernel
theorem dX10_init_15 : decode cX10_init 15 = .ok (.aload_n 0, 1) := by decide +kernel
theorem dX10_init_16 : decode cX10_init 16 = .ok (.new 16, 3) := by decide +kernel
theorem dX10_init_19 : decode cX10_init 19 = .ok (.dup, 1) := by decide +kernel
theorem dX10_init_20 : decode cX10_init 20 = .ok (.invokespecial 18, 3) := by decide +kernel
theorem dX10_init_23 : decode cX10_init 23 = .ok (.putfield 19, 3) := by decide +kernel
theorem dX10_init_26 : decode cX10_init 26 = .ok (.aload_n 0, 1) := by decide +kernel
theorem dX10_init_27 : decode cX10_init 27 = .ok (.new 23, 3) := by decide +kernel
theorem dX10_init_30 : decode cX10_init 30 = .ok (.dup, 1) := by decide +kernel
theorem dX10_init_31 : decode cX10_init 31 = .ok (.aload_n 0, 1) := by decide +kernel
theorem dX10_init_32 : decode cX10_init 32 = .ok (.getfield 10, 3) := by decide +kernel
theorem dX10_init_35 : decode cX10_init 35 = .ok (.aload_n 0, 1) := by decide +kernel
theorem dX10_init_36 : decode cX10_init 36 = .ok (.getfield 19, 3) := by decide +kernel
theorem dX10_init_39 : decode cX10_init 39 = .ok (.invokespecial 25, 3) := by decide +kernel
theorem dX10_init_42 : decode cX10_init 42 = .ok (.putfield 28, 3) := by decide +kernel
theorem dX10_init_45 : decode cX10_init 45 = .ok (.aload_n 0, 1) := by decide +kernel
theorem dX10_init_46 : decode cX10_init 46 = .ok (.new 32, 3) := by decide +kernel
theorem dX10_init_49 : decode cX10_init 49 = .ok (.dup, 1) := by decide +kernel
theorem dX10_init_50 : decode cX10_init 50 = .ok (.invokespecial 34, 3) := by decide +kernel
theorem dX10_init_53 : decode cX10_init 53 = .ok (.putfield 35, 3) := by decide +kernel
theorem dX10_init_56 : decode cX10_init 56 = .ok (.aload_n 0, 1) := by decide +kernel
theorem dX10_init_57 : decode cX10_init 57 = .ok (.new 32, 3) := by decide +kernel
theorem dX10_init_60 : decode cX10_init 60 = .ok (.dup, 1) := by decide +kernel
theorem dX10_init_61 : decode cX10_init 61 = .ok (.invokespecial 34, 3) := by decide +kernel
theorem dX10_init_64 : decode cX10_init 64 = .ok (.putfield 39, 3) := by decide +kernel
theorem dX10_init_67 : decode cX10_init 67 = .ok (.aload_n 0, 1) := by decide +kernel
theorem dX10_init_68 : decode cX10_init 68 = .ok (.new 42, 3) := by decide +kernel
theorem dX10_init_71 : decode cX10_init 71 = .ok (.dup, 1) := by decide +kernel
theorem dX10_init_72 : decode cX10_init 72 = .ok (.invokespecial 44, 3) := by decide +kernel
theorem dX10_init_75 : decode cX10_init 75 = .ok (.putfield 45, 3) := by decide +kernel
theorem dX10_init_78 : decode cX10_init 78 = .ok (.aload_n 0, 1) := by decide +kernel
theorem dX10_init_79 : decode cX10_init 79 = .ok (.new 49, 3) := by decide +kernel
theorem dX10_init_82 : decode cX10_init 82 = .ok (.dup, 1) := by decide +kernel
theorem dX10_init_83 : decode cX10_init 83 = .ok (.invokespecial 51, 3) := by decide +kernel
theorem dX10_init_86 : decode cX10_init 86 = .ok (.putfield 52, 3) := by decide +kernel
theorem dX10_init_89 : decode cX10_init 89 = .ok (.aload_n 0, 1) := by decide +kernel
theorem dX10_init_90 : decode cX10_init 90 = .ok (.new 56, 3) := by decide +kernel
theorem dX10_init_93 : decode cX10_init 93 = .ok (.dup, 1) := by decide +kernel
theorem dX10_init_94 : decode cX10_init 94 = .ok (.aload_n 0, 1) := by decide +kernel
theorem dX10_init_95 : decode cX10_init 95 = .ok (.getfield 45, 3) := by decide +kernel
theorem dX10_init_98 : decode cX10_init 98 = .ok (.aload_n 0, 1) := by decide +kernel
theorem dX10_init_99 : decode cX10_init 99 = .ok (.getfield 52, 3) := by decide +kernel
theorem dX10_init_102 : decode cX10_init 102 = .ok (.invokespecial 58, 3) := by decide +kernel
theorem dX10_init_105 : decode cX10_init 105 = .ok (.putfield 61, 3) := by decide +kernel
theorem dX10_init_108 : decode cX10_init 108 = .ok (.aload_n 0, 1) := by decide +kernel
theorem dX10_init_109 : decode cX10_init 109 = .ok (.new 65, 3) := by decide +kernel
theorem dX10_init_112 : decode cX10_init 112 = .ok (.dup, 1) := by decide +kernel
theorem dX10_init_113 : decode cX10_init 113 = .ok (.aload_n 0, 1) := by decide +kernel
theorem dX10_init_114 : decode cX10_init 114 = .ok (.getfield 52, 3) := by decide +kernel
theorem dX10_init_117 : decode cX10_init 117 = .ok (.aload_n 0, 1) := by decide +kernel
theorem dX10_init_118 : decode cX10_init 118 = .ok (.getfield 61, 3) := by decide +kernel
theorem dX10_init_121 : decode cX10_init 121 = .ok (.invokespecial 67, 3) := by decide +kernel
theorem dX10_init_124 : decode cX10_init 124 = .ok (.putfield 70, 3) := by decide +kernel
theorem dX10_init_127 : decode cX10_init 127 = .ok (.return_, 1) := by decide +kernel
theorem dX10_isProved_0 : decode cX10_isProved 0 = .ok (.aload_n 0, 1) := by decide +kernel
theorem dX10_isProved_1 : decode cX10_isProved 1 = .ok (.iload_n 1, 1) := by decide +kernel
theorem dX10_isProved_2 : decode cX10_isProved 2 = .ok (.invokevirtual 225, 3) := by decide +kernel
theorem dX10_isRight_0 : decode cX10_isRight 0 = .ok (.aload_n 0, 1) := by decide +kernel
theorem dX10_isRight_1 : decode cX10_isRight 1 = .ok (.iload_n 1, 1) := by decide +kernel
theorem dX10_isRight_2 : decode cX10_isRight 2 = .ok (.invokevirtual 249, 3) := by decide +kernel
theorem dX10_line_0 : decode cX10_line 0 = .ok (.aload_n 0, 1) := by decide +kernel
theorem dX10_line_1 : decode cX10_line 1 = .ok (.iload_n 1, 1) := by decide +kernel
theorem dX10_line_2 : decode cX10_line 2 = .ok (.invokevirtual 225, 3) := by decide +kernel
theorem dX10_many_0 : decode cX10_many 0 = .ok (.iload_n 1, 1) := by decide +kernel
theorem dX10_many_1 : decode cX10_many 1 = .ok (.ifCond .lt 8, 3) := by decide +kernel
theorem dX10_many_4 : decode cX10_many 4 = .ok (.iload_n 1, 1) := by decide +kernel
theorem dX10_many_5 : decode cX10_many 5 = .ok (.iconst 4, 1) := by decide +kernel
theorem dX10_many_6 : decode cX10_many 6 = .ok (.if_icmp .le 13, 3) := by decide +kernel
theorem dX10_many_9 : decode cX10_many 9 = .ok (.new 74, 3) := by decide +kernel
theorem dX10_many_12 : decode cX10_many 12 = .ok (.dup, 1) := by decide +kernel
theorem dX10_many_13 : decode cX10_many 13 = .ok (.ldc 183, 2) := by decide +kernel
theorem dX10_many_15 : decode cX10_many 15 = .ok (.invokespecial 78, 3) := by decide +kernel
theorem dX10_many_18 : decode cX10_many 18 = .ok (.athrow, 1) := by decide +kernel
theorem dX10_many_19 : decode cX10_many 19 = .ok (.aload_n 0, 1) := by decide +kernel
theorem dX10_many_20 : decode cX10_many 20 = .ok (.getfield 35, 3) := by decide +kernel
theorem dX10_many_23 : decode cX10_many 23 = .ok (.iload_n 1, 1) := by decide +kernel
theorem dX10_many_24 : decode cX10_many 24 = .ok (.invokevirtual 185, 3) := by decide +kernel
theorem dX10_many_27 : decode cX10_many 27 = .ok (.ireturn, 1) := by decide +kernel
theorem dX10_meanSize_0 : decode cX10_meanSize 0 = .ok (.aload_n 0, 1) := by decide +kernel
theorem dX10_meanSize_1 : decode cX10_meanSize 1 = .ok (.getfield 35, 3) := by decide +kernel
theorem dX10_meanSize_4 : decode cX10_meanSize 4 = .ok (.getfield 174, 3) := by decide +kernel
theorem dX10_meanSize_7 : decode cX10_meanSize 7 = .ok (.ifCond .gt 5, 3) := by decide +kernel
theorem dX10_meanSize_10 : decode cX10_meanSize 10 = .ok (.dconst 0, 1) := by decide +kernel
theorem dX10_meanSize_11 : decode cX10_meanSize 11 = .ok (.dreturn, 1) := by decide +kernel
theorem dX10_meet_0 : decode cX10_meet 0 = .ok (.aload_n 0, 1) := by decide +kernel
theorem dX10_meet_1 : decode cX10_meet 1 = .ok (.iload_n 1, 1) := by decide +kernel
theorem dX10_meet_2 : decode cX10_meet 2 = .ok (.invokevirtual 97, 3) := by decide +kernel
theorem dX10_mixed_0 : decode cX10_mixed 0 = .ok (.lload_n 0, 1) := by decide +kernel
theorem dX10_mixed_1 : decode cX10_mixed 1 = .ok (.ldc2_w 324, 3) := by decide +kernel
theorem dX10_mixed_4 : decode cX10_mixed 4 = .ok (.lmul, 1) := by decide +kernel
theorem dX10_mixed_5 : decode cX10_mixed 5 = .ok (.lload_n 2, 1) := by decide +kernel
theorem dX10_mixed_6 : decode cX10_mixed 6 = .ok (.ladd, 1) := by decide +kernel
theorem dX10_mixed_7 : decode cX10_mixed 7 = .ok (.lreturn, 1) := by decide +kernel
theorem dX10_needFormula_0 : decode cX10_needFormula 0 = .ok (.iload_n 1, 1) := by decide +kernel
theorem dX10_needFormula_1 : decode cX10_needFormula 1 = .ok (.ifCond .lt 14, 3) := by decide +kernel
theorem dX10_needFormula_4 : decode cX10_needFormula 4 = .ok (.iload_n 1, 1) := by decide +kernel
theorem dX10_needFormula_5 : decode cX10_needFormula 5 = .ok (.aload_n 0, 1) := by decide +kernel
theorem dX10_needFormula_6 : decode cX10_needFormula 6 = .ok (.getfield 52, 3) := by decide +kernel
theorem dX10_needFormula_9 : decode cX10_needFormula 9 = .ok (.getfield 224, 3) := by decide +kernel
theorem dX10_needFormula_12 : decode cX10_needFormula 12 = .ok (.if_icmp .lt 14, 3) := by decide +kernel
theorem dX10_needFormula_15 : decode cX10_needFormula 15 = .ok (.new 125, 3) := by decide +kernel
theorem dX10_needFormula_18 : decode cX10_needFormula 18 = .ok (.dup, 1) := by decide +kernel
theorem dX10_needFormula_19 : decode cX10_needFormula 19 = .ok (.ldc_w 292, 3) := by decide +kernel
theorem dX10_needFormula_22 : decode cX10_needFormula 22 = .ok (.invokespecial 129, 3) := by decide +kernel
theorem dX10_needFormula_25 : decode cX10_needFormula 25 = .ok (.athrow, 1) := by decide +kernel
theorem dX10_needLine_0 : decode cX10_needLine 0 = .ok (.iload_n 1, 1) := by decide +kernel
theorem dX10_needLine_1 : decode cX10_needLine 1 = .ok (.ifCond .lt 14, 3) := by decide +kernel
theorem dX10_needLine_4 : decode cX10_needLine 4 = .ok (.iload_n 1, 1) := by decide +kernel
theorem dX10_needLine_5 : decode cX10_needLine 5 = .ok (.aload_n 0, 1) := by decide +kernel
theorem dX10_needLine_6 : decode cX10_needLine 6 = .ok (.getfield 70, 3) := by decide +kernel
theorem dX10_needLine_9 : decode cX10_needLine 9 = .ok (.getfield 260, 3) := by decide +kernel
theorem dX10_needLine_12 : decode cX10_needLine 12 = .ok (.if_icmp .lt 14, 3) := by decide +kernel
theorem dX10_needLine_15 : decode cX10_needLine 15 = .ok (.new 125, 3) := by decide +kernel
theorem dX10_needLine_18 : decode cX10_needLine 18 = .ok (.dup, 1) := by decide +kernel
theorem dX10_needLine_19 : decode cX10_needLine 19 = .ok (.ldc_w 294, 3) := by decide +kernel
theorem dX10_needLine_22 : decode cX10_needLine 22 = .ok (.invokespecial 129, 3) := by decide +kernel
theorem dX10_needLine_25 : decode cX10_needLine 25 = .ok (.athrow, 1) := by decide +kernel
theorem dX10_needParts_0 : decode cX10_needParts 0 = .ok (.iload_n 1, 1) := by decide +kernel
theorem dX10_needParts_1 : decode cX10_needParts 1 = .ok (.iconst 1, 1) := by decide +kernel
theorem dX10_needParts_2 : decode cX10_needParts 2 = .ok (.if_icmp .ne 13, 3) := by decide +kernel
theorem dX10_needParts_5 : decode cX10_needParts 5 = .ok (.aload_n 0, 1) := by decide +kernel
theorem dX10_needParts_6 : decode cX10_needParts 6 = .ok (.iload_n 2, 1) := by decide +kernel
theorem dX10_needParts_7 : decode cX10_needParts 7 = .ok (.invokevirtual 97, 3) := by decide +kernel
theorem dX10_needParts_15 : decode cX10_needParts 15 = .ok (.iload_n 1, 1) := by decide +kernel
theorem dX10_needParts_16 : decode cX10_needParts 16 = .ok (.iconst 2, 1) := by decide +kernel
theorem dX10_needParts_17 : decode cX10_needParts 17 = .ok (.if_icmp .lt 13, 3) := by decide +kernel
theorem dX10_needParts_20 : decode cX10_needParts 20 = .ok (.iload_n 1, 1) := by decide +kernel
theorem dX10_needParts_21 : decode cX10_needParts 21 = .ok (.iconst 5, 1) := by decide +kernel
theorem dX10_needParts_22 : decode cX10_needParts 22 = .ok (.if_icmp .gt 8, 3) := by decide +kernel
theorem dX10_needParts_25 : decode cX10_needParts 25 = .ok (.aload_n 0, 1) := by decide +kernel
theorem dX10_needParts_26 : decode cX10_needParts 26 = .ok (.iload_n 2, 1) := by decide +kernel
theorem dX10_needParts_27 : decode cX10_needParts 27 = .ok (.invokevirtual 225, 3) := by decide +kernel
theorem dX10_needParts_30 : decode cX10_needParts 30 = .ok (.iload_n 1, 1) := by decide +kernel
theorem dX10_needParts_31 : decode cX10_needParts 31 = .ok (.iconst 3, 1) := by decide +kernel
theorem dX10_needParts_32 : decode cX10_needParts 32 = .ok (.if_icmp .lt 13, 3) := by decide +kernel
theorem dX10_needParts_35 : decode cX10_needParts 35 = .ok (.iload_n 1, 1) := by decide +kernel
theorem dX10_needParts_36 : decode cX10_needParts 36 = .ok (.iconst 5, 1) := by decide +kernel
theorem dX10_needParts_37 : decode cX10_needParts 37 = .ok (.if_icmp .gt 8, 3) := by decide +kernel
theorem dX10_needParts_45 : decode cX10_needParts 45 = .ok (.return_, 1) := by decide +kernel
theorem dX10_needRule_0 : decode cX10_needRule 0 = .ok (.iload_n 1, 1) := by decide +kernel
theorem dX10_needRule_1 : decode cX10_needRule 1 = .ok (.ifCond .lt 14, 3) := by decide +kernel
theorem dX10_needRule_4 : decode cX10_needRule 4 = .ok (.iload_n 1, 1) := by decide +kernel
theorem dX10_needRule_5 : decode cX10_needRule 5 = .ok (.aload_n 0, 1) := by decide +kernel
theorem dX10_needRule_6 : decode cX10_needRule 6 = .ok (.getfield 35, 3) := by decide +kernel
theorem dX10_needRule_9 : decode cX10_needRule 9 = .ok (.getfield 174, 3) := by decide +kernel
theorem dX10_needRule_12 : decode cX10_needRule 12 = .ok (.if_icmp .lt 14, 3) := by decide +kernel
theorem dX10_needRule_15 : decode cX10_needRule 15 = .ok (.new 125, 3) := by decide +kernel
theorem dX10_needRule_18 : decode cX10_needRule 18 = .ok (.dup, 1) := by decide +kernel
theorem dX10_needRule_19 : decode cX10_needRule 19 = .ok (.ldc_w 290, 3) := by decide +kernel
theorem dX10_needRule_22 : decode cX10_needRule 22 = .ok (.invokespecial 129, 3) := by decide +kernel
theorem dX10_needRule_25 : decode cX10_needRule 25 = .ok (.athrow, 1) := by decide +kernel
theorem dX10_needStepCount_0 : decode cX10_needStepCount 0 = .ok (.iload_n 1, 1) := by decide +kernel
theorem dX10_needStepCount_1 : decode cX10_needStepCount 1 = .ok (.iconst 1, 1) := by decide +kernel
theorem dX10_needStepCount_2 : decode cX10_needStepCount 2 = .ok (.if_icmp .lt 8, 3) := by decide +kernel
theorem dX10_needStepCount_5 : decode cX10_needStepCount 5 = .ok (.iload_n 1, 1) := by decide +kernel
theorem dX10_needStepCount_6 : decode cX10_needStepCount 6 = .ok (.iconst 3, 1) := by decide +kernel
theorem dX10_needStepCount_7 : decode cX10_needStepCount 7 = .ok (.if_icmp .le 14, 3) := by decide +kernel
theorem dX10_needStepCount_10 : decode cX10_needStepCount 10 = .ok (.new 74, 3) := by decide +kernel
theorem dX10_needStepCount_13 : decode cX10_needStepCount 13 = .ok (.dup, 1) := by decide +kernel
theorem dX10_needStepCount_14 : decode cX10_needStepCount 14 = .ok (.ldc_w 296, 3) := by decide +kernel
theorem dX10_needStepCount_17 : decode cX10_needStepCount 17 = .ok (.invokespecial 78, 3) := by decide +kernel
theorem dX10_needStepCount_20 : decode cX10_needStepCount 20 = .ok (.athrow, 1) := by decide +kernel
theorem dX10_needStepCount_21 : decode cX10_needStepCount 21 = .ok (.return_, 1) := by decide +kernel
theorem dX10_needTerm_0 : decode cX10_needTerm 0 = .ok (.iload_n 1, 1) := by decide +kernel
theorem dX10_needTerm_1 : decode cX10_needTerm 1 = .ok (.ifCond .lt 14, 3) := by decide +kernel
theorem dX10_needTerm_4 : decode cX10_needTerm 4 = .ok (.iload_n 1, 1) := by decide +kernel
theorem dX10_needTerm_5 : decode cX10_needTerm 5 = .ok (.aload_n 0, 1) := by decide +kernel
theorem dX10_needTerm_6 : decode cX10_needTerm 6 = .ok (.getfield 45, 3) := by decide +kernel
theorem dX10_needTerm_9 : decode cX10_needTerm 9 = .ok (.getfield 116, 3) := by decide +kernel
theorem dX10_needTerm_12 : decode cX10_needTerm 12 = .ok (.if_icmp .lt 14, 3) := by decide +kernel
theorem dX10_needTerm_15 : decode cX10_needTerm 15 = .ok (.new 125, 3) := by decide +kernel
theorem dX10_needTerm_18 : decode cX10_needTerm 18 = .ok (.dup, 1) := by decide +kernel
theorem dX10_needTerm_19 : decode cX10_needTerm 19 = .ok (.ldc_w 288, 3) := by decide +kernel
theorem dX10_needTerm_22 : decode cX10_needTerm 22 = .ok (.invokespecial 129, 3) := by decide +kernel
theorem dX10_needTerm_25 : decode cX10_needTerm 25 = .ok (.athrow, 1) := by decide +kernel
theorem dX10_normal_0 : decode cX10_normal 0 = .ok (.aload_n 0, 1) := by decide +kernel
theorem dX10_normal_1 : decode cX10_normal 1 = .ok (.iload_n 1, 1) := by decide +kernel
theorem dX10_normal_2 : decode cX10_normal 2 = .ok (.invokevirtual 97, 3) := by decide +kernel
theorem dX10_numberOf_0 : decode cX10_numberOf 0 = .ok (.aload_n 0, 1) := by decide +kernel
theorem dX10_numberOf_1 : decode cX10_numberOf 1 = .ok (.getfield 45, 3) := by decide +kernel
theorem dX10_numberOf_4 : decode cX10_numberOf 4 = .ok (.lload_n 1, 1) := by decide +kernel
theorem dX10_numberOf_5 : decode cX10_numberOf 5 = .ok (.invokevirtual 298, 3) := by decide +kernel
theorem dX10_numberOf_8 : decode cX10_numberOf 8 = .ok (.istore_n 3, 1) := by decide +kernel
theorem dX10_numberOf_9 : decode cX10_numberOf 9 = .ok (.iload_n 3, 1) := by decide +kernel
theorem dX10_numberOf_10 : decode cX10_numberOf 10 = .ok (.ifCond .ge 14, 3) := by decide +kernel
theorem dX10_numberOf_24 : decode cX10_numberOf 24 = .ok (.iload_n 3, 1) := by decide +kernel
theorem dX10_numberOf_25 : decode cX10_numberOf 25 = .ok (.ireturn, 1) := by decide +kernel
theorem dX10_ofTerm_0 : decode cX10_ofTerm 0 = .ok (.aload_n 0, 1) := by decide +kernel
theorem dX10_ofTerm_1 : decode cX10_ofTerm 1 = .ok (.iload_n 1, 1) := by decide +kernel
theorem dX10_ofTerm_2 : decode cX10_ofTerm 2 = .ok (.invokevirtual 97, 3) := by decide +kernel
theorem dX10_overlaps_0 : decode cX10_overlaps 0 = .ok (.aload_n 0, 1) := by decide +kernel
theorem dX10_overlaps_1 : decode cX10_overlaps 1 = .ok (.iload_n 1, 1) := by decide +kernel
theorem dX10_overlaps_2 : decode cX10_overlaps 2 = .ok (.invokevirtual 177, 3) := by decide +kernel
theorem dX10_proof_0 : decode cX10_proof 0 = .ok (.aload_n 0, 1) := by decide +kernel
theorem dX10_proof_1 : decode cX10_proof 1 = .ok (.iload_n 1, 1) := by decide +kernel
theorem dX10_proof_2 : decode cX10_proof 2 = .ok (.invokevirtual 225, 3) := by decide +kernel
theorem dX10_rule_0 : decode cX10_rule 0 = .ok (.aload_n 0, 1) := by decide +kernel
theorem dX10_rule_1 : decode cX10_rule 1 = .ok (.iload_n 1, 1) := by decide +kernel
theorem dX10_rule_2 : decode cX10_rule 2 = .ok (.invokevirtual 177, 3) := by decide +kernel
theorem dX10_rulesAfter_0 : decode cX10_rulesAfter 0 = .ok (.aload_n 0, 1) := by decide +kernel
theorem dX10_rulesAfter_1 : decode cX10_rulesAfter 1 = .ok (.iload_n 1, 1) := by decide +kernel
theorem dX10_rulesAfter_2 : decode cX10_rulesAfter 2 = .ok (.invokevirtual 164, 3) := by decide +kernel
theorem dX10_rulesAfter_5 : decode cX10_rulesAfter 5 = .ok (.aload_n 0, 1) := by decide +kernel
theorem dX10_rulesAfter_6 : decode cX10_rulesAfter 6 = .ok (.getfield 39, 3) := by decide +kernel
theorem dX10_rulesAfter_9 : decode cX10_rulesAfter 9 = .ok (.aload_n 0, 1) := by decide +kernel
theorem dX10_rulesAfter_10 : decode cX10_rulesAfter 10 = .ok (.getfield 35, 3) := by decide +kernel
theorem dX10_rulesAfter_13 : decode cX10_rulesAfter 13 = .ok (.invokevirtual 272, 3) := by decide +kernel
theorem dX10_rulesAfter_16 : decode cX10_rulesAfter 16 = .ok (.aload_n 0, 1) := by decide +kernel
theorem dX10_rulesAfter_17 : decode cX10_rulesAfter 17 = .ok (.getfield 28, 3) := by decide +kernel
theorem dX10_rulesAfter_20 : decode cX10_rulesAfter 20 = .ok (.aload_n 0, 1) := by decide +kernel
theorem dX10_rulesAfter_21 : decode cX10_rulesAfter 21 = .ok (.getfield 39, 3) := by decide +kernel
theorem dX10_rulesAfter_24 : decode cX10_rulesAfter 24 = .ok (.iload_n 1, 1) := by decide +kernel
theorem dX10_rulesAfter_25 : decode cX10_rulesAfter 25 = .ok (.invokevirtual 167, 3) := by decide +kernel
theorem dX10_rulesAfter_28 : decode cX10_rulesAfter 28 = .ok (.aload_n 0, 1) := by decide +kernel
theorem dX10_rulesAfter_29 : decode cX10_rulesAfter 29 = .ok (.getfield 39, 3) := by decide +kernel
theorem dX10_rulesAfter_32 : decode cX10_rulesAfter 32 = .ok (.getfield 174, 3) := by decide +kernel
theorem dX10_rulesAfter_35 : decode cX10_rulesAfter 35 = .ok (.ireturn, 1) := by decide +kernel
theorem dX10_sizeWithout_0 : decode cX10_sizeWithout 0 = .ok (.aload_n 0, 1) := by decide +kernel
theorem dX10_sizeWithout_1 : decode cX10_sizeWithout 1 = .ok (.iload_n 1, 1) := by decide +kernel
theorem dX10_sizeWithout_2 : decode cX10_sizeWithout 2 = .ok (.invokevirtual 177, 3) := by decide +kernel
theorem dX10_steps_0 : decode cX10_steps 0 = .ok (.aload_n 0, 1) := by decide +kernel
theorem dX10_steps_1 : decode cX10_steps 1 = .ok (.iload_n 1, 1) := by decide +kernel
theorem dX10_steps_2 : decode cX10_steps 2 = .ok (.invokevirtual 97, 3) := by decide +kernel
theorem dX10_term_0 : decode cX10_term 0 = .ok (.iload_n 1, 1) := by decide +kernel
theorem dX10_term_1 : decode cX10_term 1 = .ok (.ifCond .lt 13, 3) := by decide +kernel
theorem dX10_term_4 : decode cX10_term 4 = .ok (.iload_n 1, 1) := by decide +kernel
theorem dX10_term_5 : decode cX10_term 5 = .ok (.bipush 6, 2) := by decide +kernel
theorem dX10_term_7 : decode cX10_term 7 = .ok (.if_icmp .ge 7, 3) := by decide +kernel
theorem dX10_term_10 : decode cX10_term 10 = .ok (.iconst 1, 1) := by decide +kernel
theorem dX10_term_11 : decode cX10_term 11 = .ok (.goto 4, 3) := by decide +kernel
theorem dX10_term_14 : decode cX10_term 14 = .ok (.iconst 0, 1) := by decide +kernel
theorem dX10_term_15 : decode cX10_term 15 = .ok (.istore 4, 2) := by decide +kernel
theorem dX10_term_17 : decode cX10_term 17 = .ok (.iload 4, 2) := by decide +kernel
theorem dX10_term_19 : decode cX10_term 19 = .ok (.ifCond .eq 13, 3) := by decide +kernel
theorem dX10_term_22 : decode cX10_term 22 = .ok (.iload_n 1, 1) := by decide +kernel
theorem dX10_term_23 : decode cX10_term 23 = .ok (.invokestatic 91, 3) := by decide +kernel
theorem dX10_term_26 : decode cX10_term 26 = .ok (.invokestatic 94, 3) := by decide +kernel
theorem dX10_term_29 : decode cX10_term 29 = .ok (.goto 4, 3) := by decide +kernel
theorem dX10_term_32 : decode cX10_term 32 = .ok (.iconst 0, 1) := by decide +kernel
theorem dX10_term_33 : decode cX10_term 33 = .ok (.istore 5, 2) := by decide +kernel
theorem dX10_term_35 : decode cX10_term 35 = .ok (.iload 5, 2) := by decide +kernel
theorem dX10_term_37 : decode cX10_term 37 = .ok (.iconst 1, 1) := by decide +kernel
theorem dX10_term_38 : decode cX10_term 38 = .ok (.if_icmp .lt 8, 3) := by decide +kernel
theorem dX10_term_41 : decode cX10_term 41 = .ok (.aload_n 0, 1) := by decide +kernel
theorem dX10_term_42 : decode cX10_term 42 = .ok (.iload_n 2, 1) := by decide +kernel
theorem dX10_term_43 : decode cX10_term 43 = .ok (.invokevirtual 97, 3) := by decide +kernel
theorem dX10_term_46 : decode cX10_term 46 = .ok (.iload 5, 2) := by decide +kernel
theorem dX10_term_48 : decode cX10_term 48 = .ok (.iconst 2, 1) := by decide +kernel
theorem dX10_term_49 : decode cX10_term 49 = .ok (.if_icmp .ne 8, 3) := by decide +kernel
theorem dX10_term_57 : decode cX10_term 57 = .ok (.iload 4, 2) := by decide +kernel
theorem dX10_term_59 : decode cX10_term 59 = .ok (.ifCond .ne 13, 3) := by decide +kernel
theorem dX10_term_62 : decode cX10_term 62 = .ok (.new 74, 3) := by decide +kernel
theorem dX10_term_65 : decode cX10_term 65 = .ok (.dup, 1) := by decide +kernel
theorem dX10_term_66 : decode cX10_term 66 = .ok (.ldc 101, 2) := by decide +kernel
theorem dX10_term_68 : decode cX10_term 68 = .ok (.invokespecial 78, 3) := by decide +kernel
theorem dX10_term_71 : decode cX10_term 71 = .ok (.athrow, 1) := by decide +kernel
theorem dX10_term_72 : decode cX10_term 72 = .ok (.iload 5, 2) := by decide +kernel
theorem dX10_term_74 : decode cX10_term 74 = .ok (.iconst 1, 1) := by decide +kernel
theorem dX10_term_75 : decode cX10_term 75 = .ok (.if_icmp .lt 15, 3) := by decide +kernel
theorem dX10_term_90 : decode cX10_term 90 = .ok (.lconst 0, 1) := by decide +kernel
theorem dX10_term_91 : decode cX10_term 91 = .ok (.lstore 6, 2) := by decide +kernel
theorem dX10_term_93 : decode cX10_term 93 = .ok (.iload 5, 2) := by decide +kernel
theorem dX10_term_95 : decode cX10_term 95 = .ok (.iconst 2, 1) := by decide +kernel
theorem dX10_term_96 : decode cX10_term 96 = .ok (.if_icmp .ne 15, 3) := by decide +kernel
theorem dX10_term_111 : decode cX10_term 111 = .ok (.lconst 0, 1) := by decide +kernel
theorem dX10_term_112 : decode cX10_term 112 = .ok (.lstore 8, 2) := by decide +kernel
theorem dX10_term_114 : decode cX10_term 114 = .ok (.iconst 1, 1) := by decide +kernel
theorem dX10_term_115 : decode cX10_term 115 = .ok (.lload 6, 2) := by decide +kernel
theorem dX10_term_117 : decode cX10_term 117 = .ok (.invokestatic 107, 3) := by decide +kernel
theorem dX10_term_120 : decode cX10_term 120 = .ok (.iadd, 1) := by decide +kernel
theorem dX10_term_121 : decode cX10_term 121 = .ok (.lload 8, 2) := by decide +kernel
theorem dX10_term_123 : decode cX10_term 123 = .ok (.invokestatic 107, 3) := by decide +kernel
theorem dX10_term_126 : decode cX10_term 126 = .ok (.iadd, 1) := by decide +kernel
theorem dX10_term_127 : decode cX10_term 127 = .ok (.bipush 12, 2) := by decide +kernel
theorem dX10_term_129 : decode cX10_term 129 = .ok (.if_icmp .le 13, 3) := by decide +kernel
theorem dX10_term_142 : decode cX10_term 142 = .ok (.aload_n 0, 1) := by decide +kernel
theorem dX10_term_143 : decode cX10_term 143 = .ok (.iload_n 1, 1) := by decide +kernel
theorem dX10_term_144 : decode cX10_term 144 = .ok (.invokestatic 91, 3) := by decide +kernel
theorem dX10_term_147 : decode cX10_term 147 = .ok (.i2l, 1) := by decide +kernel
theorem dX10_term_148 : decode cX10_term 148 = .ok (.lload 6, 2) := by decide +kernel
theorem dX10_term_150 : decode cX10_term 150 = .ok (.invokestatic 112, 3) := by decide +kernel
theorem dX10_term_153 : decode cX10_term 153 = .ok (.lload 8, 2) := by decide +kernel
theorem dX10_term_155 : decode cX10_term 155 = .ok (.invokestatic 112, 3) := by decide +kernel
theorem dX10_term_158 : decode cX10_term 158 = .ok (.invokevirtual 87, 3) := by decide +kernel
theorem dX10_term_161 : decode cX10_term 161 = .ok (.ireturn, 1) := by decide +kernel
theorem dX10_terms_0 : decode cX10_terms 0 = .ok (.aload_n 0, 1) := by decide +kernel
theorem dX10_terms_1 : decode cX10_terms 1 = .ok (.getfield 45, 3) := by decide +kernel
theorem dX10_terms_4 : decode cX10_terms 4 = .ok (.getfield 116, 3) := by decide +kernel
theorem dX10_terms_7 : decode cX10_terms 7 = .ok (.ireturn, 1) := by decide +kernel
theorem dX10_unline_0 : decode cX10_unline 0 = .ok (.aload_n 0, 1) := by decide +kernel
theorem dX10_unline_1 : decode cX10_unline 1 = .ok (.getfield 70, 3) := by decide +kernel
theorem dX10_unline_4 : decode cX10_unline 4 = .ok (.getfield 260, 3) := by decide +kernel
theorem dX10_unline_7 : decode cX10_unline 7 = .ok (.ifCond .gt 14, 3) := by decide +kernel
theorem dX10_unline_10 : decode cX10_unline 10 = .ok (.new 152, 3) := by decide +kernel
theorem dX10_unline_13 : decode cX10_unline 13 = .ok (.dup, 1) := by decide +kernel
theorem dX10_unline_14 : decode cX10_unline 14 = .ok (.ldc_w 261, 3) := by decide +kernel
theorem dX10_unline_17 : decode cX10_unline 17 = .ok (.invokespecial 156, 3) := by decide +kernel
theorem dX10_unline_20 : decode cX10_unline 20 = .ok (.athrow, 1) := by decide +kernel
theorem dX10_variable_0 : decode cX10_variable 0 = .ok (.iload_n 1, 1) := by decide +kernel
theorem dX10_variable_1 : decode cX10_variable 1 = .ok (.ifCond .lt 8, 3) := by decide +kernel
theorem dX10_variable_4 : decode cX10_variable 4 = .ok (.iload_n 1, 1) := by decide +kernel
theorem dX10_variable_5 : decode cX10_variable 5 = .ok (.iconst 4, 1) := by decide +kernel
theorem dX10_variable_6 : decode cX10_variable 6 = .ok (.if_icmp .lt 13, 3) := by decide +kernel
theorem dX10_variable_9 : decode cX10_variable 9 = .ok (.new 74, 3) := by decide +kernel
theorem dX10_variable_12 : decode cX10_variable 12 = .ok (.dup, 1) := by decide +kernel
theorem dX10_variable_13 : decode cX10_variable 13 = .ok (.ldc 76, 2) := by decide +kernel
theorem dX10_variable_15 : decode cX10_variable 15 = .ok (.invokespecial 78, 3) := by decide +kernel
theorem dX10_variable_18 : decode cX10_variable 18 = .ok (.athrow, 1) := by decide +kernel
theorem dX10_variable_19 : decode cX10_variable 19 = .ok (.aload_n 0, 1) := by decide +kernel
theorem dX10_variable_20 : decode cX10_variable 20 = .ok (.iload_n 1, 1) := by decide +kernel
theorem dX10_variable_21 : decode cX10_variable 21 = .ok (.invokestatic 81, 3) := by decide +kernel
theorem dX10_variable_24 : decode cX10_variable 24 = .ok (.i2l, 1) := by decide +kernel
theorem dX10_variable_25 : decode cX10_variable 25 = .ok (.invokevirtual 87, 3) := by decide +kernel
theorem dX10_variable_28 : decode cX10_variable 28 = .ok (.ireturn, 1) := by decide +kernel
theorem dX11_init_0 : decode cX11_init 0 = .ok (.aload_n 0, 1) := by decide +kernel
theorem dX11_init_1 : decode cX11_init 1 = .ok (.invokespecial 3, 3) := by decide +kernel
theorem dX11_init_4 : decode cX11_init 4 = .ok (.aload_n 0, 1) := by decide +kernel
theorem dX11_init_5 : decode cX11_init 5 = .ok (.new 9, 3) := by decide +kernel
theorem dX11_init_8 : decode cX11_init 8 = .ok (.dup, 1) := by decide +kernel
theorem dX11_init_9 : decode cX11_init 9 = .ok (.invokespecial 11, 3) := by decide +kernel
theorem dX11_init_12 : decode cX11_init 12 = .ok (.putfield 12, 3) := by decide +kernel
theorem dX11_init_15 : decode cX11_init 15 = .ok (.aload_n 0, 1) := by decide +kernel
theorem dX11_init_16 : decode cX11_init 16 = .ok (.new 9, 3) := by decide +kernel
theorem dX11_init_19 : decode cX11_init 19 = .ok (.dup, 1) := by decide +kernel
theorem dX11_init_20 : decode cX11_init 20 = .ok (.invokespecial 11, 3) := by decide +kernel
theorem dX11_init_23 : decode cX11_init 23 = .ok (.putfield 18, 3) := by decide +kernel
theorem dX11_init_26 : decode cX11_init 26 = .ok (.return_, 1) := by decide +kernel
theorem dX13_add_0 : decode cX13_add 0 = .ok (.aload_n 0, 1) := by decide +kernel
theorem dX13_add_1 : decode cX13_add 1 = .ok (.aload_n 0, 1) := by decide +kernel
theorem dX13_add_2 : decode cX13_add 2 = .ok (.getfield 296, 3) := by decide +kernel
theorem dX13_add_5 : decode cX13_add 5 = .ok (.ldc2_w 300, 3) := by decide +kernel
theorem dX13_add_8 : decode cX13_add 8 = .ok (.lmul, 1) := by decide +kernel
theorem dX13_add_9 : decode cX13_add 9 = .ok (.iload_n 1, 1) := by decide +kernel
theorem dX13_add_10 : decode cX13_add 10 = .ok (.i2l, 1) := by decide +kernel
theorem dX13_add_11 : decode cX13_add 11 = .ok (.ladd, 1) := by decide +kernel
theorem dX13_add_12 : decode cX13_add 12 = .ok (.putfield 296, 3) := by decide +kernel
theorem dX13_add_15 : decode cX13_add 15 = .ok (.return_, 1) := by decide +kernel
theorem dX13_areEqual_0 : decode cX13_areEqual 0 = .ok (.aload_n 0, 1) := by decide +kernel
theorem dX13_areEqual_1 : decode cX13_areEqual 1 = .ok (.aload_n 0, 1) := by decide +kernel
theorem dX13_areEqual_2 : decode cX13_areEqual 2 = .ok (.iload_n 1, 1) := by decide +kernel
theorem dX13_areEqual_3 : decode cX13_areEqual 3 = .ok (.invokevirtual 150, 3) := by decide +kernel
theorem dX13_areEqual_6 : decode cX13_areEqual 6 = .ok (.ifCond .eq 15, 3) := by decide +kernel
theorem dX13_areEqual_21 : decode cX13_areEqual 21 = .ok (.iconst 1, 1) := by decide +kernel
theorem dX13_areEqual_22 : decode cX13_areEqual 22 = .ok (.putfield 38, 3) := by decide +kernel
theorem dX13_areEqual_25 : decode cX13_areEqual 25 = .ok (.aload_n 0, 1) := by decide +kernel
theorem dX13_areEqual_26 : decode cX13_areEqual 26 = .ok (.getfield 38, 3) := by decide +kernel
theorem dX13_areEqual_29 : decode cX13_areEqual 29 = .ok (.ifCond .ne 16, 3) := by decide +kernel
theorem dX13_areEqual_45 : decode cX13_areEqual 45 = .ok (.iconst 0, 1) := by decide +kernel
theorem dX13_areEqual_46 : decode cX13_areEqual 46 = .ok (.ireturn, 1) := by decide +kernel
theorem dX13_at_0 : decode cX13_at 0 = .ok (.aload_n 0, 1) := by decide +kernel
theorem dX13_at_1 : decode cX13_at 1 = .ok (.iconst 0, 1) := by decide +kernel
theorem dX13_at_2 : decode cX13_at 2 = .ok (.putfield 38, 3) := by decide +kernel
theorem dX13_at_5 : decode cX13_at 5 = .ok (.aload_n 0, 1) := by decide +kernel
theorem dX13_at_6 : decode cX13_at 6 = .ok (.iload_n 1, 1) := by decide +kernel
theorem dX13_at_7 : decode cX13_at 7 = .ok (.invokevirtual 150, 3) := by decide +kernel
theorem dX13_at_10 : decode cX13_at 10 = .ok (.ifCond .eq 41, 3) := by decide +kernel
theorem dX13_at_51 : decode cX13_at 51 = .ok (.aload_n 0, 1) := by decide +kernel
theorem dX13_at_52 : decode cX13_at 52 = .ok (.iconst 1, 1) := by decide +kernel
theorem dX13_at_53 : decode cX13_at 53 = .ok (.invokevirtual 144, 3) := by decide +kernel
theorem dX13_at_56 : decode cX13_at 56 = .ok (.ireturn, 1) := by decide +kernel
theorem dX13_compare_0 : decode cX13_compare 0 = .ok (.aload_n 0, 1) := by decide +kernel
theorem dX13_compare_1 : decode cX13_compare 1 = .ok (.iconst 0, 1) := by decide +kernel
theorem dX13_compare_2 : decode cX13_compare 2 = .ok (.putfield 38, 3) := by decide +kernel
theorem dX13_compare_5 : decode cX13_compare 5 = .ok (.aload_n 0, 1) := by decide +kernel
theorem dX13_compare_6 : decode cX13_compare 6 = .ok (.iload_n 1, 1) := by decide +kernel
theorem dX13_compare_7 : decode cX13_compare 7 = .ok (.invokevirtual 150, 3) := by decide +kernel
theorem dX13_compare_10 : decode cX13_compare 10 = .ok (.ifCond .eq 11, 3) := by decide +kernel
theorem dX13_compare_21 : decode cX13_compare 21 = .ok (.aload_n 0, 1) := by decide +kernel
theorem dX13_compare_22 : decode cX13_compare 22 = .ok (.iconst 1, 1) := by decide +kernel
theorem dX13_compare_23 : decode cX13_compare 23 = .ok (.invokevirtual 144, 3) := by decide +kernel
theorem dX13_compare_26 : decode cX13_compare 26 = .ok (.ireturn, 1) := by decide +kernel
theorem dX13_complete_0 : decode cX13_complete 0 = .ok (.aload_n 0, 1) := by decide +kernel
theorem dX13_complete_1 : decode cX13_complete 1 = .ok (.iconst 0, 1) := by decide +kernel
theorem dX13_complete_2 : decode cX13_complete 2 = .ok (.putfield 38, 3) := by decide +kernel
theorem dX13_complete_5 : decode cX13_complete 5 = .ok (.iload_n 1, 1) := by decide +kernel
theorem dX13_complete_6 : decode cX13_complete 6 = .ok (.iconst 1, 1) := by decide +kernel
theorem dX13_complete_7 : decode cX13_complete 7 = .ok (.iconst 3, 1) := by decide +kernel
theorem dX13_complete_8 : decode cX13_complete 8 = .ok (.invokestatic 128, 3) := by decide +kernel
theorem dX13_complete_11 : decode cX13_complete 11 = .ok (.ifCond .ne 9, 3) := by decide +kernel
theorem dX13_complete_14 : decode cX13_complete 14 = .ok (.aload_n 0, 1) := by decide +kernel
theorem dX13_complete_15 : decode cX13_complete 15 = .ok (.iconst 1, 1) := by decide +kernel
theorem dX13_complete_16 : decode cX13_complete 16 = .ok (.invokevirtual 144, 3) := by decide +kernel
theorem dX13_complete_19 : decode cX13_complete 19 = .ok (.ireturn, 1) := by decide +kernel
theorem dX13_complete_20 : decode cX13_complete 20 = .ok (.aload_n 0, 1) := by decide +kernel
theorem dX13_complete_21 : decode cX13_complete 21 = .ok (.aload_n 0, 1) := by decide +kernel
theorem dX13_complete_22 : decode cX13_complete 22 = .ok (.getfield 25, 3) := by decide +kernel
theorem dX13_complete_25 : decode cX13_complete 25 = .ok (.iload_n 1, 1) := by decide +kernel
theorem dX13_complete_26 : decode cX13_complete 26 = .ok (.invokestatic 164, 3) := by decide +kernel
theorem dX13_complete_29 : decode cX13_complete 29 = .ok (.putfield 25, 3) := by decide +kernel
theorem dX13_complete_32 : decode cX13_complete 32 = .ok (.aload_n 0, 1) := by decide +kernel
theorem dX13_complete_33 : decode cX13_complete 33 = .ok (.bipush 60, 2) := by decide +kernel
theorem dX13_complete_35 : decode cX13_complete 35 = .ok (.anewarray 29, 3) := by decide +kernel
theorem dX13_complete_38 : decode cX13_complete 38 = .ok (.putfield 31, 3) := by decide +kernel
theorem dX13_complete_41 : decode cX13_complete 41 = .ok (.aload_n 0, 1) := by decide +kernel
theorem dX13_complete_42 : decode cX13_complete 42 = .ok (.getfield 25, 3) := by decide +kernel
theorem dX13_complete_45 : decode cX13_complete 45 = .ok (.getfield 168, 3) := by decide +kernel
theorem dX13_complete_48 : decode cX13_complete 48 = .ok (.invokevirtual 124, 3) := by decide +kernel
theorem dX13_complete_51 : decode cX13_complete 51 = .ok (.ireturn, 1) := by decide +kernel
theorem dX13_completed_0 : decode cX13_completed 0 = .ok (.aload_n 0, 1) := by decide +kernel
theorem dX13_completed_1 : decode cX13_completed 1 = .ok (.astore_n 2, 1) := by decide +kernel
theorem dX13_completed_2 : decode cX13_completed 2 = .ok (.iconst 0, 1) := by decide +kernel
theorem dX13_completed_3 : decode cX13_completed 3 = .ok (.istore_n 3, 1) := by decide +kernel
theorem dX13_completed_4 : decode cX13_completed 4 = .ok (.iload_n 3, 1) := by decide +kernel
theorem dX13_completed_5 : decode cX13_completed 5 = .ok (.iload_n 1, 1) := by decide +kernel
theorem dX13_completed_6 : decode cX13_completed 6 = .ok (.if_icmp .ge 55, 3) := by decide +kernel
theorem dX13_completed_9 : decode cX13_completed 9 = .ok (.aload_n 2, 1) := by decide +kernel
theorem dX13_completed_10 : decode cX13_completed 10 = .ok (.getfield 106, 3) := by decide +kernel
theorem dX13_completed_13 : decode cX13_completed 13 = .ok (.ifCond .ne 48, 3) := by decide +kernel
theorem dX13_completed_16 : decode cX13_completed 16 = .ok (.aload_n 2, 1) := by decide +kernel
theorem dX13_completed_17 : decode cX13_completed 17 = .ok (.getfield 110, 3) := by decide +kernel
theorem dX13_completed_20 : decode cX13_completed 20 = .ok (.invokevirtual 113, 3) := by decide +kernel
theorem dX13_completed_23 : decode cX13_completed 23 = .ok (.ifCond .ne 38, 3) := by decide +kernel
theorem dX13_completed_61 : decode cX13_completed 61 = .ok (.aload_n 2, 1) := by decide +kernel
theorem dX13_completed_62 : decode cX13_completed 62 = .ok (.areturn, 1) := by decide +kernel
theorem dX13_digest_0 : decode cX13_digest 0 = .ok (.aload_n 0, 1) := by decide +kernel
theorem dX13_digest_1 : decode cX13_digest 1 = .ok (.iconst 0, 1) := by decide +kernel
theorem dX13_digest_2 : decode cX13_digest 2 = .ok (.putfield 38, 3) := by decide +kernel
theorem dX13_digest_5 : decode cX13_digest 5 = .ok (.aload_n 0, 1) := by decide +kernel
theorem dX13_digest_6 : decode cX13_digest 6 = .ok (.ldc2_w 302, 3) := by decide +kernel
theorem dX13_digest_9 : decode cX13_digest 9 = .ok (.putfield 296, 3) := by decide +kernel
theorem dX13_digest_12 : decode cX13_digest 12 = .ok (.aload_n 0, 1) := by decide +kernel
theorem dX13_digest_13 : decode cX13_digest 13 = .ok (.aload_n 0, 1) := by decide +kernel
theorem dX13_digest_14 : decode cX13_digest 14 = .ok (.getfield 10, 3) := by decide +kernel
theorem dX13_digest_17 : decode cX13_digest 17 = .ok (.invokevirtual 124, 3) := by decide +kernel
theorem dX13_digest_20 : decode cX13_digest 20 = .ok (.invokevirtual 304, 3) := by decide +kernel
theorem dX13_digest_23 : decode cX13_digest 23 = .ok (.iconst 0, 1) := by decide +kernel
theorem dX13_digest_24 : decode cX13_digest 24 = .ok (.istore_n 1, 1) := by decide +kernel
theorem dX13_digest_25 : decode cX13_digest 25 = .ok (.iload_n 1, 1) := by decide +kernel
theorem dX13_digest_26 : decode cX13_digest 26 = .ok (.iconst 5, 1) := by decide +kernel
theorem dX13_digest_27 : decode cX13_digest 27 = .ok (.if_icmp .ge 18, 3) := by decide +kernel
theorem dX13_digest_30 : decode cX13_digest 30 = .ok (.aload_n 0, 1) := by decide +kernel
theorem dX13_digest_31 : decode cX13_digest 31 = .ok (.aload_n 0, 1) := by decide +kernel
theorem dX13_digest_32 : decode cX13_digest 32 = .ok (.iload_n 1, 1) := by decide +kernel
theorem dX13_digest_33 : decode cX13_digest 33 = .ok (.invokevirtual 182, 3) := by decide +kernel
theorem dX13_digest_36 : decode cX13_digest 36 = .ok (.invokevirtual 304, 3) := by decide +kernel
theorem dX13_digest_39 : decode cX13_digest 39 = .ok (.iinc 1 1, 3) := by decide +kernel
theorem dX13_digest_42 : decode cX13_digest 42 = .ok (.goto (-17), 3) := by decide +kernel
theorem dX13_digest_45 : decode cX13_digest 45 = .ok (.aload_n 0, 1) := by decide +kernel
theorem dX13_digest_46 : decode cX13_digest 46 = .ok (.getfield 25, 3) := by decide +kernel
theorem dX13_digest_49 : decode cX13_digest 49 = .ok (.getfield 168, 3) := by decide +kernel
theorem dX13_digest_52 : decode cX13_digest 52 = .ok (.invokevirtual 206, 3) := by decide +kernel
theorem dX13_digest_55 : decode cX13_digest 55 = .ok (.astore_n 1, 1) := by decide +kernel
theorem dX13_digest_56 : decode cX13_digest 56 = .ok (.aload_n 1, 1) := by decide +kernel
theorem dX13_digest_57 : decode cX13_digest 57 = .ok (.invokeinterface 210 1, 5) := by decide +kernel
theorem dX13_digest_62 : decode cX13_digest 62 = .ok (.ifCond .eq 82, 3) := by decide +kernel
theorem dX13_digest_144 : decode cX13_digest 144 = .ok (.iconst 0, 1) := by decide +kernel
theorem dX13_digest_145 : decode cX13_digest 145 = .ok (.istore_n 1, 1) := by decide +kernel
theorem dX13_digest_146 : decode cX13_digest 146 = .ok (.iload_n 1, 1) := by decide +kernel
theorem dX13_digest_147 : decode cX13_digest 147 = .ok (.bipush 20, 2) := by decide +kernel
theorem dX13_digest_149 : decode cX13_digest 149 = .ok (.aload_n 0, 1) := by decide +kernel
theorem dX13_digest_150 : decode cX13_digest 150 = .ok (.getfield 10, 3) := by decide +kernel
theorem dX13_digest_153 : decode cX13_digest 153 = .ok (.invokevirtual 124, 3) := by decide +kernel
theorem dX13_digest_156 : decode cX13_digest 156 = .ok (.invokestatic 307, 3) := by decide +kernel
theorem dX13_digest_159 : decode cX13_digest 159 = .ok (.if_icmp .ge 44, 3) := by decide +kernel
theorem dX13_digest_203 : decode cX13_digest 203 = .ok (.iconst 0, 1) := by decide +kernel
theorem dX13_digest_204 : decode cX13_digest 204 = .ok (.istore_n 1, 1) := by decide +kernel
theorem dX13_digest_205 : decode cX13_digest 205 = .ok (.iload_n 1, 1) := by decide +kernel
theorem dX13_digest_206 : decode cX13_digest 206 = .ok (.bipush 12, 2) := by decide +kernel
theorem dX13_digest_208 : decode cX13_digest 208 = .ok (.aload_n 0, 1) := by decide +kernel
theorem dX13_digest_209 : decode cX13_digest 209 = .ok (.getfield 16, 3) := by decide +kernel
theorem dX13_digest_212 : decode cX13_digest 212 = .ok (.invokevirtual 124, 3) := by decide +kernel
theorem dX13_digest_215 : decode cX13_digest 215 = .ok (.invokestatic 307, 3) := by decide +kernel
theorem dX13_digest_218 : decode cX13_digest 218 = .ok (.if_icmp .ge 55, 3) := by decide +kernel
theorem dX13_digest_273 : decode cX13_digest 273 = .ok (.aload_n 0, 1) := by decide +kernel
theorem dX13_digest_274 : decode cX13_digest 274 = .ok (.invokevirtual 285, 3) := by decide +kernel
theorem dX13_digest_277 : decode cX13_digest 277 = .ok (.astore_n 1, 1) := by decide +kernel
theorem dX13_digest_278 : decode cX13_digest 278 = .ok (.aload_n 0, 1) := by decide +kernel
theorem dX13_digest_279 : decode cX13_digest 279 = .ok (.invokevirtual 289, 3) := by decide +kernel
theorem dX13_digest_282 : decode cX13_digest 282 = .ok (.astore_n 2, 1) := by decide +kernel
theorem dX13_digest_283 : decode cX13_digest 283 = .ok (.iconst 0, 1) := by decide +kernel
theorem dX13_digest_284 : decode cX13_digest 284 = .ok (.istore_n 3, 1) := by decide +kernel
theorem dX13_digest_285 : decode cX13_digest 285 = .ok (.iload_n 3, 1) := by decide +kernel
theorem dX13_digest_286 : decode cX13_digest 286 = .ok (.aload_n 1, 1) := by decide +kernel
theorem dX13_digest_287 : decode cX13_digest 287 = .ok (.arraylength, 1) := by decide +kernel
theorem dX13_digest_288 : decode cX13_digest 288 = .ok (.if_icmp .ge 34, 3) := by decide +kernel
theorem dX13_digest_322 : decode cX13_digest 322 = .ok (.aload_n 0, 1) := by decide +kernel
theorem dX13_digest_323 : decode cX13_digest 323 = .ok (.getfield 296, 3) := by decide +kernel
theorem dX13_digest_326 : decode cX13_digest 326 = .ok (.lreturn, 1) := by decide +kernel
theorem dX13_dropRule_0 : decode cX13_dropRule 0 = .ok (.aload_n 0, 1) := by decide +kernel
theorem dX13_dropRule_1 : decode cX13_dropRule 1 = .ok (.iconst 0, 1) := by decide +kernel
theorem dX13_dropRule_2 : decode cX13_dropRule 2 = .ok (.putfield 38, 3) := by decide +kernel
theorem dX13_dropRule_5 : decode cX13_dropRule 5 = .ok (.aload_n 0, 1) := by decide +kernel
theorem dX13_dropRule_6 : decode cX13_dropRule 6 = .ok (.iload_n 1, 1) := by decide +kernel
theorem dX13_dropRule_7 : decode cX13_dropRule 7 = .ok (.invokevirtual 170, 3) := by decide +kernel
theorem dX13_dropRule_10 : decode cX13_dropRule 10 = .ok (.ifCond .ne 9, 3) := by decide +kernel
theorem dX13_dropRule_13 : decode cX13_dropRule 13 = .ok (.aload_n 0, 1) := by decide +kernel
theorem dX13_dropRule_14 : decode cX13_dropRule 14 = .ok (.iconst 1, 1) := by decide +kernel
theorem dX13_dropRule_15 : decode cX13_dropRule 15 = .ok (.invokevirtual 144, 3) := by decide +kernel
theorem dX13_dropRule_18 : decode cX13_dropRule 18 = .ok (.ireturn, 1) := by decide +kernel
theorem dX13_equation_0 : decode cX13_equation 0 = .ok (.aload_n 0, 1) := by decide +kernel
theorem dX13_equation_1 : decode cX13_equation 1 = .ok (.iconst 0, 1) := by decide +kernel
theorem dX13_equation_2 : decode cX13_equation 2 = .ok (.putfield 38, 3) := by decide +kernel
theorem dX13_equation_5 : decode cX13_equation 5 = .ok (.aload_n 0, 1) := by decide +kernel
theorem dX13_equation_6 : decode cX13_equation 6 = .ok (.iload_n 1, 1) := by decide +kernel
theorem dX13_equation_7 : decode cX13_equation 7 = .ok (.invokevirtual 150, 3) := by decide +kernel
theorem dX13_equation_10 : decode cX13_equation 10 = .ok (.ifCond .eq 11, 3) := by decide +kernel
theorem dX13_equation_21 : decode cX13_equation 21 = .ok (.aload_n 0, 1) := by decide +kernel
theorem dX13_equation_22 : decode cX13_equation 22 = .ok (.iconst 1, 1) := by decide +kernel
theorem dX13_equation_23 : decode cX13_equation 23 = .ok (.invokevirtual 144, 3) := by decide +kernel
theorem dX13_equation_26 : decode cX13_equation 26 = .ok (.ireturn, 1) := by decide +kernel
theorem dX13_firstWrong_0 : decode cX13_firstWrong 0 = .ok (.aload_n 0, 1) := by decide +kernel
theorem dX13_firstWrong_1 : decode cX13_firstWrong 1 = .ok (.iconst 0, 1) := by decide +kernel
theorem dX13_firstWrong_2 : decode cX13_firstWrong 2 = .ok (.putfield 38, 3) := by decide +kernel
theorem dX13_firstWrong_5 : decode cX13_firstWrong 5 = .ok (.aload_n 0, 1) := by decide +kernel
theorem dX13_firstWrong_6 : decode cX13_firstWrong 6 = .ok (.invokevirtual 285, 3) := by decide +kernel
theorem dX13_firstWrong_9 : decode cX13_firstWrong 9 = .ok (.astore_n 1, 1) := by decide +kernel
theorem dX13_firstWrong_10 : decode cX13_firstWrong 10 = .ok (.iconst 0, 1) := by decide +kernel
theorem dX13_firstWrong_11 : decode cX13_firstWrong 11 = .ok (.istore_n 2, 1) := by decide +kernel
theorem dX13_firstWrong_12 : decode cX13_firstWrong 12 = .ok (.iload_n 2, 1) := by decide +kernel
theorem dX13_firstWrong_13 : decode cX13_firstWrong 13 = .ok (.aload_n 1, 1) := by decide +kernel
theorem dX13_firstWrong_14 : decode cX13_firstWrong 14 = .ok (.arraylength, 1) := by decide +kernel
theorem dX13_firstWrong_15 : decode cX13_firstWrong 15 = .ok (.if_icmp .ge 17, 3) := by decide +kernel
theorem dX13_firstWrong_32 : decode cX13_firstWrong 32 = .ok (.iconst (-1), 1) := by decide +kernel
theorem dX13_firstWrong_33 : decode cX13_firstWrong 33 = .ok (.ireturn, 1) := by decide +kernel
theorem dX13_fits__0 : decode cX13_fits_ 0 = .ok (.aload_n 0, 1) := by decide +kernel
theorem dX13_fits__1 : decode cX13_fits_ 1 = .ok (.aload_n 0, 1) := by decide +kernel
theorem dX13_fits__2 : decode cX13_fits_ 2 = .ok (.iload_n 1, 1) := by decide +kernel
theorem dX13_fits__3 : decode cX13_fits_ 3 = .ok (.invokevirtual 150, 3) := by decide +kernel
theorem dX13_fits__6 : decode cX13_fits_ 6 = .ok (.ifCond .eq 15, 3) := by decide +kernel
theorem dX13_fits__21 : decode cX13_fits_ 21 = .ok (.iconst 1, 1) := by decide +kernel
theorem dX13_fits__22 : decode cX13_fits_ 22 = .ok (.putfield 38, 3) := by decide +kernel
theorem dX13_fits__25 : decode cX13_fits_ 25 = .ok (.aload_n 0, 1) := by decide +kernel
theorem dX13_fits__26 : decode cX13_fits_ 26 = .ok (.getfield 38, 3) := by decide +kernel
theorem dX13_fits__29 : decode cX13_fits_ 29 = .ok (.ifCond .ne 35, 3) := by decide +kernel
theorem dX13_fits__64 : decode cX13_fits_ 64 = .ok (.iconst 0, 1) := by decide +kernel
theorem dX13_fits__65 : decode cX13_fits_ 65 = .ok (.ireturn, 1) := by decide +kernel
theorem dX13_formula_0 : decode cX13_formula 0 = .ok (.aload_n 0, 1) := by decide +kernel
theorem dX13_formula_1 : decode cX13_formula 1 = .ok (.iconst 0, 1) := by decide +kernel
theorem dX13_formula_2 : decode cX13_formula 2 = .ok (.putfield 38, 3) := by decide +kernel
theorem dX13_formula_5 : decode cX13_formula 5 = .ok (.iload_n 1, 1) := by decide +kernel
theorem dX13_formula_6 : decode cX13_formula 6 = .ok (.iconst 1, 1) := by decide +kernel
theorem dX13_formula_7 : decode cX13_formula 7 = .ok (.if_icmp .ne 25, 3) := by decide +kernel
theorem dX13_formula_10 : decode cX13_formula 10 = .ok (.aload_n 0, 1) := by decide +kernel
theorem dX13_formula_11 : decode cX13_formula 11 = .ok (.iload_n 2, 1) := by decide +kernel
theorem dX13_formula_12 : decode cX13_formula 12 = .ok (.invokevirtual 150, 3) := by decide +kernel
theorem dX13_formula_15 : decode cX13_formula 15 = .ok (.ifCond .eq 11, 3) := by decide +kernel
theorem dX13_formula_26 : decode cX13_formula 26 = .ok (.aload_n 0, 1) := by decide +kernel
theorem dX13_formula_27 : decode cX13_formula 27 = .ok (.iconst 1, 1) := by decide +kernel
theorem dX13_formula_28 : decode cX13_formula 28 = .ok (.invokevirtual 144, 3) := by decide +kernel
theorem dX13_formula_31 : decode cX13_formula 31 = .ok (.ireturn, 1) := by decide +kernel
theorem dX13_formula_32 : decode cX13_formula 32 = .ok (.iload_n 1, 1) := by decide +kernel
theorem dX13_formula_33 : decode cX13_formula 33 = .ok (.iconst 2, 1) := by decide +kernel
theorem dX13_formula_34 : decode cX13_formula 34 = .ok (.iconst 5, 1) := by decide +kernel
theorem dX13_formula_35 : decode cX13_formula 35 = .ok (.invokestatic 128, 3) := by decide +kernel
theorem dX13_formula_38 : decode cX13_formula 38 = .ok (.ifCond .eq 30, 3) := by decide +kernel
theorem dX13_formula_41 : decode cX13_formula 41 = .ok (.aload_n 0, 1) := by decide +kernel
theorem dX13_formula_42 : decode cX13_formula 42 = .ok (.iload_n 2, 1) := by decide +kernel
theorem dX13_formula_43 : decode cX13_formula 43 = .ok (.invokevirtual 218, 3) := by decide +kernel
theorem dX13_formula_46 : decode cX13_formula 46 = .ok (.ifCond .eq 16, 3) := by decide +kernel
theorem dX13_formula_62 : decode cX13_formula 62 = .ok (.aload_n 0, 1) := by decide +kernel
theorem dX13_formula_63 : decode cX13_formula 63 = .ok (.iconst 1, 1) := by decide +kernel
theorem dX13_formula_64 : decode cX13_formula 64 = .ok (.invokevirtual 144, 3) := by decide +kernel
theorem dX13_formula_67 : decode cX13_formula 67 = .ok (.ireturn, 1) := by decide +kernel
theorem dX13_formula_68 : decode cX13_formula 68 = .ok (.iload_n 1, 1) := by decide +kernel
theorem dX13_formula_69 : decode cX13_formula 69 = .ok (.iconst 0, 1) := by decide +kernel
theorem dX13_formula_70 : decode cX13_formula 70 = .ok (.iconst 5, 1) := by decide +kernel
theorem dX13_formula_71 : decode cX13_formula 71 = .ok (.invokestatic 128, 3) := by decide +kernel
theorem dX13_formula_74 : decode cX13_formula 74 = .ok (.ifCond .eq 16, 3) := by decide +kernel
theorem dX13_formula_77 : decode cX13_formula 77 = .ok (.iload_n 1, 1) := by decide +kernel
theorem dX13_formula_78 : decode cX13_formula 78 = .ok (.ifCond .ne 18, 3) := by decide +kernel
theorem dX13_formula_81 : decode cX13_formula 81 = .ok (.iload_n 2, 1) := by decide +kernel
theorem dX13_formula_82 : decode cX13_formula 82 = .ok (.iconst 0, 1) := by decide +kernel
theorem dX13_formula_83 : decode cX13_formula 83 = .ok (.iconst 5, 1) := by decide +kernel
theorem dX13_formula_84 : decode cX13_formula 84 = .ok (.invokestatic 128, 3) := by decide +kernel
theorem dX13_formula_87 : decode cX13_formula 87 = .ok (.ifCond .ne 9, 3) := by decide +kernel
theorem dX13_formula_90 : decode cX13_formula 90 = .ok (.aload_n 0, 1) := by decide +kernel
theorem dX13_formula_91 : decode cX13_formula 91 = .ok (.iconst 2, 1) := by decide +kernel
theorem dX13_formula_92 : decode cX13_formula 92 = .ok (.invokevirtual 144, 3) := by decide +kernel
theorem dX13_formula_95 : decode cX13_formula 95 = .ok (.ireturn, 1) := by decide +kernel
theorem dX13_formula_96 : decode cX13_formula 96 = .ok (.iload_n 1, 1) := by decide +kernel
theorem dX13_formula_97 : decode cX13_formula 97 = .ok (.ifCond .eq 8, 3) := by decide +kernel
theorem dX13_formula_105 : decode cX13_formula 105 = .ok (.iconst 0, 1) := by decide +kernel
theorem dX13_formula_106 : decode cX13_formula 106 = .ok (.goto 4, 3) := by decide +kernel
theorem dX13_formula_110 : decode cX13_formula 110 = .ok (.istore 4, 2) := by decide +kernel
theorem dX13_formula_112 : decode cX13_formula 112 = .ok (.iload_n 1, 1) := by decide +kernel
theorem dX13_formula_113 : decode cX13_formula 113 = .ok (.iconst 2, 1) := by decide +kernel
theorem dX13_formula_114 : decode cX13_formula 114 = .ok (.if_icmp .ge 7, 3) := by decide +kernel
theorem dX13_formula_117 : decode cX13_formula 117 = .ok (.iconst 0, 1) := by decide +kernel
theorem dX13_formula_118 : decode cX13_formula 118 = .ok (.goto 41, 3) := by decide +kernel
theorem dX13_formula_159 : decode cX13_formula 159 = .ok (.istore 5, 2) := by decide +kernel
theorem dX13_formula_161 : decode cX13_formula 161 = .ok (.iload 5, 2) := by decide +kernel
theorem dX13_formula_163 : decode cX13_formula 163 = .ok (.bipush 6, 2) := by decide +kernel
theorem dX13_formula_165 : decode cX13_formula 165 = .ok (.if_icmp .le 9, 3) := by decide +kernel
theorem dX13_formula_174 : decode cX13_formula 174 = .ok (.iconst 4, 1) := by decide +kernel
theorem dX13_formula_175 : decode cX13_formula 175 = .ok (.newarray .int, 2) := by decide +kernel
theorem dX13_formula_177 : decode cX13_formula 177 = .ok (.dup, 1) := by decide +kernel
theorem dX13_formula_178 : decode cX13_formula 178 = .ok (.iconst 0, 1) := by decide +kernel
theorem dX13_formula_179 : decode cX13_formula 179 = .ok (.iload_n 1, 1) := by decide +kernel
theorem dX13_formula_180 : decode cX13_formula 180 = .ok (.iastore, 1) := by decide +kernel
theorem dX13_formula_181 : decode cX13_formula 181 = .ok (.dup, 1) := by decide +kernel
theorem dX13_formula_182 : decode cX13_formula 182 = .ok (.iconst 1, 1) := by decide +kernel
theorem dX13_formula_183 : decode cX13_formula 183 = .ok (.iload_n 2, 1) := by decide +kernel
theorem dX13_formula_184 : decode cX13_formula 184 = .ok (.iastore, 1) := by decide +kernel
theorem dX13_formula_185 : decode cX13_formula 185 = .ok (.dup, 1) := by decide +kernel
theorem dX13_formula_186 : decode cX13_formula 186 = .ok (.iconst 2, 1) := by decide +kernel
theorem dX13_formula_187 : decode cX13_formula 187 = .ok (.iload 4, 2) := by decide +kernel
theorem dX13_formula_189 : decode cX13_formula 189 = .ok (.iastore, 1) := by decide +kernel
theorem dX13_formula_190 : decode cX13_formula 190 = .ok (.dup, 1) := by decide +kernel
theorem dX13_formula_191 : decode cX13_formula 191 = .ok (.iconst 3, 1) := by decide +kernel
theorem dX13_formula_192 : decode cX13_formula 192 = .ok (.iload 5, 2) := by decide +kernel
theorem dX13_formula_194 : decode cX13_formula 194 = .ok (.iastore, 1) := by decide +kernel
theorem dX13_formula_195 : decode cX13_formula 195 = .ok (.astore 6, 2) := by decide +kernel
theorem dX13_formula_197 : decode cX13_formula 197 = .ok (.iconst 0, 1) := by decide +kernel
theorem dX13_formula_198 : decode cX13_formula 198 = .ok (.istore 7, 2) := by decide +kernel
theorem dX13_formula_200 : decode cX13_formula 200 = .ok (.iload 7, 2) := by decide +kernel
theorem dX13_formula_202 : decode cX13_formula 202 = .ok (.aload_n 0, 1) := by decide +kernel
theorem dX13_formula_203 : decode cX13_formula 203 = .ok (.getfield 16, 3) := by decide +kernel
theorem dX13_formula_206 : decode cX13_formula 206 = .ok (.invokevirtual 124, 3) := by decide +kernel
theorem dX13_formula_209 : decode cX13_formula 209 = .ok (.if_icmp .ge 32, 3) := by decide +kernel
theorem dX13_formula_241 : decode cX13_formula 241 = .ok (.aload_n 0, 1) := by decide +kernel
theorem dX13_formula_242 : decode cX13_formula 242 = .ok (.getfield 16, 3) := by decide +kernel
theorem dX13_formula_245 : decode cX13_formula 245 = .ok (.invokevirtual 124, 3) := by decide +kernel
theorem dX13_formula_248 : decode cX13_formula 248 = .ok (.bipush 40, 2) := by decide +kernel
theorem dX13_formula_250 : decode cX13_formula 250 = .ok (.if_icmp .ne 9, 3) := by decide +kernel
theorem dX13_formula_259 : decode cX13_formula 259 = .ok (.aload_n 0, 1) := by decide +kernel
theorem dX13_formula_260 : decode cX13_formula 260 = .ok (.getfield 16, 3) := by decide +kernel
theorem dX13_formula_263 : decode cX13_formula 263 = .ok (.aload 6, 2) := by decide +kernel
theorem dX13_formula_265 : decode cX13_formula 265 = .ok (.invokevirtual 136, 3) := by decide +kernel
theorem dX13_formula_268 : decode cX13_formula 268 = .ok (.pop, 1) := by decide +kernel
theorem dX13_formula_269 : decode cX13_formula 269 = .ok (.aload_n 0, 1) := by decide +kernel
theorem dX13_formula_270 : decode cX13_formula 270 = .ok (.getfield 16, 3) := by decide +kernel
theorem dX13_formula_273 : decode cX13_formula 273 = .ok (.invokevirtual 124, 3) := by decide +kernel
theorem dX13_formula_276 : decode cX13_formula 276 = .ok (.iconst 1, 1) := by decide +kernel
theorem dX13_formula_277 : decode cX13_formula 277 = .ok (.isub, 1) := by decide +kernel
theorem dX13_formula_278 : decode cX13_formula 278 = .ok (.ireturn, 1) := by decide +kernel
theorem dX13_formulas_0 : decode cX13_formulas 0 = .ok (.aload_n 0, 1) := by decide +kernel
theorem dX13_formulas_1 : decode cX13_formulas 1 = .ok (.iconst 0, 1) := by decide +kernel
theorem dX13_formulas_2 : decode cX13_formulas 2 = .ok (.putfield 38, 3) := by decide +kernel
theorem dX13_formulas_5 : decode cX13_formulas 5 = .ok (.aload_n 0, 1) := by decide +kernel
theorem dX13_formulas_6 : decode cX13_formulas 6 = .ok (.getfield 16, 3) := by decide +kernel
theorem dX13_formulas_9 : decode cX13_formulas 9 = .ok (.invokevirtual 124, 3) := by decide +kernel
theorem dX13_formulas_12 : decode cX13_formulas 12 = .ok (.ireturn, 1) := by decide +kernel
theorem dX13_given_0 : decode cX13_given 0 = .ok (.aload_n 0, 1) := by decide +kernel
theorem dX13_given_1 : decode cX13_given 1 = .ok (.iconst 0, 1) := by decide +kernel
theorem dX13_given_2 : decode cX13_given 2 = .ok (.putfield 38, 3) := by decide +kernel
theorem dX13_given_5 : decode cX13_given 5 = .ok (.aload_n 0, 1) := by decide +kernel
theorem dX13_given_6 : decode cX13_given 6 = .ok (.iload_n 1, 1) := by decide +kernel
theorem dX13_given_7 : decode cX13_given 7 = .ok (.invokevirtual 268, 3) := by decide +kernel
theorem dX13_given_10 : decode cX13_given 10 = .ok (.ifCond .eq 15, 3) := by decide +kernel
theorem dX13_given_25 : decode cX13_given 25 = .ok (.aload_n 0, 1) := by decide +kernel
theorem dX13_given_26 : decode cX13_given 26 = .ok (.iconst 1, 1) := by decide +kernel
theorem dX13_given_27 : decode cX13_given 27 = .ok (.invokevirtual 144, 3) := by decide +kernel
theorem dX13_given_30 : decode cX13_given 30 = .ok (.ireturn, 1) := by decide +kernel
theorem dX13_givens_0 : decode cX13_givens 0 = .ok (.aload_n 0, 1) := by decide +kernel
theorem dX13_givens_1 : decode cX13_givens 1 = .ok (.getfield 19, 3) := by decide +kernel
theorem dX13_givens_4 : decode cX13_givens 4 = .ok (.invokevirtual 124, 3) := by decide +kernel
theorem dX13_givens_7 : decode cX13_givens 7 = .ok (.newarray .int, 2) := by decide +kernel
theorem dX13_givens_9 : decode cX13_givens 9 = .ok (.astore_n 1, 1) := by decide +kernel
theorem dX13_givens_10 : decode cX13_givens 10 = .ok (.iconst 0, 1) := by decide +kernel
theorem dX13_givens_11 : decode cX13_givens 11 = .ok (.istore_n 2, 1) := by decide +kernel
theorem dX13_givens_12 : decode cX13_givens 12 = .ok (.iload_n 2, 1) := by decide +kernel
theorem dX13_givens_13 : decode cX13_givens 13 = .ok (.aload_n 1, 1) := by decide +kernel
theorem dX13_givens_14 : decode cX13_givens 14 = .ok (.arraylength, 1) := by decide +kernel
theorem dX13_givens_15 : decode cX13_givens 15 = .ok (.if_icmp .ge 75, 3) := by decide +kernel
theorem dX13_givens_90 : decode cX13_givens 90 = .ok (.aload_n 1, 1) := by decide +kernel
theorem dX13_givens_91 : decode cX13_givens 91 = .ok (.areturn, 1) := by decide +kernel
theorem dX13_init_0 : decode cX13_init 0 = .ok (.aload_n 0, 1) := by decide +kernel
theorem dX13_init_1 : decode cX13_init 1 = .ok (.invokespecial 1, 3) := by decide +kernel
theorem dX13_init_4 : decode cX13_init 4 = .ok (.aload_n 0, 1) := by decide +kernel
theorem dX13_init_5 : decode cX13_init 5 = .ok (.new 7, 3) := by decide +kernel
theorem dX13_init_8 : decode cX13_init 8 = .ok (.dup, 1) := by decide +kernel
theorem dX13_init_9 : decode cX13_init 9 = .ok (.invokespecial 9, 3) := by decide +kernel
theorem dX13_init_12 : decode cX13_init 12 = .ok (.putfield 10, 3) := by decide +kernel
theorem dX13_init_15 : decode cX13_init 15 = .ok (.aload_n 0, 1) := by decide +kernel
theorem dX13_init_16 : decode cX13_init 16 = .ok (.new 7, 3) := by decide +kernel
theorem dX13_init_19 : decode cX13_init 19 = .ok (.dup, 1) := by decide +kernel
theorem dX13_init_20 : decode cX13_init 20 = .ok (.invokespecial 9, 3) := by decide +kernel
theorem dX13_init_23 : decode cX13_init 23 = .ok (.putfield 16, 3) := by decide +kernel
theorem dX13_init_26 : decode cX13_init 26 = .ok (.aload_n 0, 1) := by decide +kernel
theorem dX13_init_27 : decode cX13_init 27 = .ok (.new 7, 3) := by decide +kernel
theorem dX13_init_30 : decode cX13_init 30 = .ok (.dup, 1) := by decide +kernel
theorem dX13_init_31 : decode cX13_init 31 = .ok (.invokespecial 9, 3) := by decide +kernel
theorem dX13_init_34 : decode cX13_init 34 = .ok (.putfield 19, 3) := by decide +kernel
theorem dX13_init_37 : decode cX13_init 37 = .ok (.aload_n 0, 1) := by decide +kernel
theorem dX13_init_38 : decode cX13_init 38 = .ok (.new 22, 3) := by decide +kernel
theorem dX13_init_41 : decode cX13_init 41 = .ok (.dup, 1) := by decide +kernel
theorem dX13_init_42 : decode cX13_init 42 = .ok (.invokespecial 24, 3) := by decide +kernel
theorem dX13_init_45 : decode cX13_init 45 = .ok (.putfield 25, 3) := by decide +kernel
theorem dX13_init_48 : decode cX13_init 48 = .ok (.aload_n 0, 1) := by decide +kernel
theorem dX13_init_49 : decode cX13_init 49 = .ok (.bipush 60, 2) := by decide +kernel
theorem dX13_init_51 : decode cX13_init 51 = .ok (.anewarray 29, 3) := by decide +kernel
theorem dX13_init_54 : decode cX13_init 54 = .ok (.putfield 31, 3) := by decide +kernel
theorem dX13_init_57 : decode cX13_init 57 = .ok (.aload_n 0, 1) := by decide +kernel
theorem dX13_init_58 : decode cX13_init 58 = .ok (.bipush 60, 2) := by decide +kernel
theorem dX13_init_60 : decode cX13_init 60 = .ok (.newarray .int, 2) := by decide +kernel
theorem dX13_init_62 : decode cX13_init 62 = .ok (.putfield 35, 3) := by decide +kernel
theorem dX13_init_65 : decode cX13_init 65 = .ok (.return_, 1) := by decide +kernel
theorem dX13_is_0 : decode cX13_is 0 = .ok (.iload_n 0, 1) := by decide +kernel
theorem dX13_is_1 : decode cX13_is 1 = .ok (.iload_n 1, 1) := by decide +kernel
theorem dX13_is_2 : decode cX13_is 2 = .ok (.if_icmp .lt 12, 3) := by decide +kernel
theorem dX13_is_5 : decode cX13_is 5 = .ok (.iload_n 0, 1) := by decide +kernel
theorem dX13_is_6 : decode cX13_is 6 = .ok (.iload_n 2, 1) := by decide +kernel
theorem dX13_is_7 : decode cX13_is 7 = .ok (.if_icmp .gt 7, 3) := by decide +kernel
theorem dX13_is_10 : decode cX13_is 10 = .ok (.iconst 1, 1) := by decide +kernel
theorem dX13_is_11 : decode cX13_is 11 = .ok (.goto 4, 3) := by decide +kernel
theorem dX13_is_14 : decode cX13_is 14 = .ok (.iconst 0, 1) := by decide +kernel
theorem dX13_is_15 : decode cX13_is 15 = .ok (.ireturn, 1) := by decide +kernel
theorem dX13_isFormula_0 : decode cX13_isFormula 0 = .ok (.iload_n 1, 1) := by decide +kernel
theorem dX13_isFormula_1 : decode cX13_isFormula 1 = .ok (.iconst 0, 1) := by decide +kernel
theorem dX13_isFormula_2 : decode cX13_isFormula 2 = .ok (.aload_n 0, 1) := by decide +kernel
theorem dX13_isFormula_3 : decode cX13_isFormula 3 = .ok (.getfield 16, 3) := by decide +kernel
theorem dX13_isFormula_6 : decode cX13_isFormula 6 = .ok (.invokevirtual 124, 3) := by decide +kernel
theorem dX13_isFormula_9 : decode cX13_isFormula 9 = .ok (.iconst 1, 1) := by decide +kernel
theorem dX13_isFormula_10 : decode cX13_isFormula 10 = .ok (.isub, 1) := by decide +kernel
theorem dX13_isFormula_11 : decode cX13_isFormula 11 = .ok (.invokestatic 128, 3) := by decide +kernel
theorem dX13_isFormula_14 : decode cX13_isFormula 14 = .ok (.ireturn, 1) := by decide +kernel
theorem dX13_isLine_0 : decode cX13_isLine 0 = .ok (.iload_n 1, 1) := by decide +kernel
theorem dX13_isLine_1 : decode cX13_isLine 1 = .ok (.iconst 0, 1) := by decide +kernel
theorem dX13_isLine_2 : decode cX13_isLine 2 = .ok (.aload_n 0, 1) := by decide +kernel
theorem dX13_isLine_3 : decode cX13_isLine 3 = .ok (.getfield 19, 3) := by decide +kernel
theorem dX13_isLine_6 : decode cX13_isLine 6 = .ok (.invokevirtual 124, 3) := by decide +kernel
theorem dX13_isLine_9 : decode cX13_isLine 9 = .ok (.iconst 1, 1) := by decide +kernel
theorem dX13_isLine_10 : decode cX13_isLine 10 = .ok (.isub, 1) := by decide +kernel
theorem dX13_isLine_11 : decode cX13_isLine 11 = .ok (.invokestatic 128, 3) := by decide +kernel
theorem dX13_isLine_14 : decode cX13_isLine 14 = .ok (.ireturn, 1) := by decide +kernel
theorem dX13_isProved_0 : decode cX13_isProved 0 = .ok (.aload_n 0, 1) := by decide +kernel
theorem dX13_isProved_1 : decode cX13_isProved 1 = .ok (.aload_n 0, 1) := by decide +kernel
theorem dX13_isProved_2 : decode cX13_isProved 2 = .ok (.iload_n 1, 1) := by decide +kernel
theorem dX13_isProved_3 : decode cX13_isProved 3 = .ok (.invokevirtual 218, 3) := by decide +kernel
theorem dX13_isProved_6 : decode cX13_isProved 6 = .ok (.ifCond .eq 7, 3) := by decide +kernel
theorem dX13_isProved_13 : decode cX13_isProved 13 = .ok (.iconst 1, 1) := by decide +kernel
theorem dX13_isProved_14 : decode cX13_isProved 14 = .ok (.putfield 38, 3) := by decide +kernel
theorem dX13_isProved_17 : decode cX13_isProved 17 = .ok (.aload_n 0, 1) := by decide +kernel
theorem dX13_isProved_18 : decode cX13_isProved 18 = .ok (.getfield 38, 3) := by decide +kernel
theorem dX13_isProved_21 : decode cX13_isProved 21 = .ok (.ifCond .ne 16, 3) := by decide +kernel
theorem dX13_isProved_37 : decode cX13_isProved 37 = .ok (.iconst 0, 1) := by decide +kernel
theorem dX13_isProved_38 : decode cX13_isProved 38 = .ok (.ireturn, 1) := by decide +kernel
theorem dX13_isRight_0 : decode cX13_isRight 0 = .ok (.aload_n 0, 1) := by decide +kernel
theorem dX13_isRight_1 : decode cX13_isRight 1 = .ok (.aload_n 0, 1) := by decide +kernel
theorem dX13_isRight_2 : decode cX13_isRight 2 = .ok (.iload_n 1, 1) := by decide +kernel
theorem dX13_isRight_3 : decode cX13_isRight 3 = .ok (.invokevirtual 268, 3) := by decide +kernel
theorem dX13_isRight_6 : decode cX13_isRight 6 = .ok (.ifCond .eq 7, 3) := by decide +kernel
theorem dX13_isRight_13 : decode cX13_isRight 13 = .ok (.iconst 1, 1) := by decide +kernel
theorem dX13_isRight_14 : decode cX13_isRight 14 = .ok (.putfield 38, 3) := by decide +kernel
theorem dX13_isRight_17 : decode cX13_isRight 17 = .ok (.aload_n 0, 1) := by decide +kernel
theorem dX13_isRight_18 : decode cX13_isRight 18 = .ok (.getfield 38, 3) := by decide +kernel
theorem dX13_isRight_21 : decode cX13_isRight 21 = .ok (.ifCond .ne 16, 3) := by decide +kernel
theorem dX13_isRight_37 : decode cX13_isRight 37 = .ok (.iconst 0, 1) := by decide +kernel
theorem dX13_isRight_38 : decode cX13_isRight 38 = .ok (.ireturn, 1) := by decide +kernel
theorem dX13_isRule_0 : decode cX13_isRule 0 = .ok (.iload_n 1, 1) := by decide +kernel
theorem dX13_isRule_1 : decode cX13_isRule 1 = .ok (.iconst 0, 1) := by decide +kernel
theorem dX13_isRule_2 : decode cX13_isRule 2 = .ok (.aload_n 0, 1) := by decide +kernel
theorem dX13_isRule_3 : decode cX13_isRule 3 = .ok (.getfield 25, 3) := by decide +kernel
theorem dX13_isRule_6 : decode cX13_isRule 6 = .ok (.getfield 168, 3) := by decide +kernel
theorem dX13_isRule_9 : decode cX13_isRule 9 = .ok (.invokevirtual 124, 3) := by decide +kernel
theorem dX13_isRule_12 : decode cX13_isRule 12 = .ok (.iconst 1, 1) := by decide +kernel
theorem dX13_isRule_13 : decode cX13_isRule 13 = .ok (.isub, 1) := by decide +kernel
theorem dX13_isRule_14 : decode cX13_isRule 14 = .ok (.invokestatic 128, 3) := by decide +kernel
theorem dX13_isRule_17 : decode cX13_isRule 17 = .ok (.ireturn, 1) := by decide +kernel
theorem dX13_isTerm_0 : decode cX13_isTerm 0 = .ok (.iload_n 1, 1) := by decide +kernel
theorem dX13_isTerm_1 : decode cX13_isTerm 1 = .ok (.iconst 0, 1) := by decide +kernel
theorem dX13_isTerm_2 : decode cX13_isTerm 2 = .ok (.aload_n 0, 1) := by decide +kernel
theorem dX13_isTerm_3 : decode cX13_isTerm 3 = .ok (.getfield 10, 3) := by decide +kernel
theorem dX13_isTerm_6 : decode cX13_isTerm 6 = .ok (.invokevirtual 124, 3) := by decide +kernel
theorem dX13_isTerm_9 : decode cX13_isTerm 9 = .ok (.iconst 1, 1) := by decide +kernel
theorem dX13_isTerm_10 : decode cX13_isTerm 10 = .ok (.isub, 1) := by decide +kernel
theorem dX13_isTerm_11 : decode cX13_isTerm 11 = .ok (.invokestatic 128, 3) := by decide +kernel
theorem dX13_isTerm_14 : decode cX13_isTerm 14 = .ok (.ireturn, 1) := by decide +kernel
theorem dX13_line_0 : decode cX13_line 0 = .ok (.aload_n 0, 1) := by decide +kernel
theorem dX13_line_1 : decode cX13_line 1 = .ok (.iconst 0, 1) := by decide +kernel
theorem dX13_line_2 : decode cX13_line 2 = .ok (.putfield 38, 3) := by decide +kernel
theorem dX13_line_5 : decode cX13_line 5 = .ok (.aload_n 0, 1) := by decide +kernel
theorem dX13_line_6 : decode cX13_line 6 = .ok (.iload_n 1, 1) := by decide +kernel
theorem dX13_line_7 : decode cX13_line 7 = .ok (.invokevirtual 218, 3) := by decide +kernel
theorem dX13_line_10 : decode cX13_line 10 = .ok (.ifCond .eq 34, 3) := by decide +kernel
theorem dX13_line_44 : decode cX13_line 44 = .ok (.aload_n 0, 1) := by decide +kernel
theorem dX13_line_45 : decode cX13_line 45 = .ok (.iconst 1, 1) := by decide +kernel
theorem dX13_line_46 : decode cX13_line 46 = .ok (.invokevirtual 144, 3) := by decide +kernel
theorem dX13_line_49 : decode cX13_line 49 = .ok (.ireturn, 1) := by decide +kernel
theorem dX13_many_0 : decode cX13_many 0 = .ok (.aload_n 0, 1) := by decide +kernel
theorem dX13_many_1 : decode cX13_many 1 = .ok (.iconst 0, 1) := by decide +kernel
theorem dX13_many_2 : decode cX13_many 2 = .ok (.putfield 38, 3) := by decide +kernel
theorem dX13_many_5 : decode cX13_many 5 = .ok (.iload_n 1, 1) := by decide +kernel
theorem dX13_many_6 : decode cX13_many 6 = .ok (.iconst 0, 1) := by decide +kernel
theorem dX13_many_7 : decode cX13_many 7 = .ok (.iconst 4, 1) := by decide +kernel
theorem dX13_many_8 : decode cX13_many 8 = .ok (.invokestatic 128, 3) := by decide +kernel
theorem dX13_many_11 : decode cX13_many 11 = .ok (.ifCond .eq 11, 3) := by decide +kernel
theorem dX13_many_14 : decode cX13_many 14 = .ok (.aload_n 0, 1) := by decide +kernel
theorem dX13_many_15 : decode cX13_many 15 = .ok (.iload_n 1, 1) := by decide +kernel
theorem dX13_many_16 : decode cX13_many 16 = .ok (.invokevirtual 182, 3) := by decide +kernel
theorem dX13_many_19 : decode cX13_many 19 = .ok (.goto 8, 3) := by decide +kernel
theorem dX13_many_22 : decode cX13_many 22 = .ok (.aload_n 0, 1) := by decide +kernel
theorem dX13_many_23 : decode cX13_many 23 = .ok (.iconst 1, 1) := by decide +kernel
theorem dX13_many_24 : decode cX13_many 24 = .ok (.invokevirtual 144, 3) := by decide +kernel
theorem dX13_many_27 : decode cX13_many 27 = .ok (.ireturn, 1) := by decide +kernel
theorem dX13_manyNow_0 : decode cX13_manyNow 0 = .ok (.iconst 5, 1) := by decide +kernel
theorem dX13_manyNow_1 : decode cX13_manyNow 1 = .ok (.newarray .int, 2) := by decide +kernel
theorem dX13_manyNow_3 : decode cX13_manyNow 3 = .ok (.dup, 1) := by decide +kernel
theorem dX13_manyNow_4 : decode cX13_manyNow 4 = .ok (.iconst 0, 1) := by decide +kernel
theorem dX13_manyNow_5 : decode cX13_manyNow 5 = .ok (.aload_n 0, 1) := by decide +kernel
theorem dX13_manyNow_6 : decode cX13_manyNow 6 = .ok (.getfield 25, 3) := by decide +kernel
theorem dX13_manyNow_9 : decode cX13_manyNow 9 = .ok (.getfield 168, 3) := by decide +kernel
theorem dX13_manyNow_12 : decode cX13_manyNow 12 = .ok (.invokevirtual 124, 3) := by decide +kernel
theorem dX13_manyNow_15 : decode cX13_manyNow 15 = .ok (.iastore, 1) := by decide +kernel
theorem dX13_manyNow_16 : decode cX13_manyNow 16 = .ok (.dup, 1) := by decide +kernel
theorem dX13_manyNow_17 : decode cX13_manyNow 17 = .ok (.iconst 1, 1) := by decide +kernel
theorem dX13_manyNow_18 : decode cX13_manyNow 18 = .ok (.aload_n 0, 1) := by decide +kernel
theorem dX13_manyNow_19 : decode cX13_manyNow 19 = .ok (.getfield 25, 3) := by decide +kernel
theorem dX13_manyNow_22 : decode cX13_manyNow 22 = .ok (.getfield 110, 3) := by decide +kernel
theorem dX13_manyNow_25 : decode cX13_manyNow 25 = .ok (.invokevirtual 124, 3) := by decide +kernel
theorem dX13_manyNow_28 : decode cX13_manyNow 28 = .ok (.iastore, 1) := by decide +kernel
theorem dX13_manyNow_29 : decode cX13_manyNow 29 = .ok (.dup, 1) := by decide +kernel
theorem dX13_manyNow_30 : decode cX13_manyNow 30 = .ok (.iconst 2, 1) := by decide +kernel
theorem dX13_manyNow_31 : decode cX13_manyNow 31 = .ok (.aload_n 0, 1) := by decide +kernel
theorem dX13_manyNow_32 : decode cX13_manyNow 32 = .ok (.getfield 25, 3) := by decide +kernel
theorem dX13_manyNow_35 : decode cX13_manyNow 35 = .ok (.getfield 176, 3) := by decide +kernel
theorem dX13_manyNow_38 : decode cX13_manyNow 38 = .ok (.iastore, 1) := by decide +kernel
theorem dX13_manyNow_39 : decode cX13_manyNow 39 = .ok (.dup, 1) := by decide +kernel
theorem dX13_manyNow_40 : decode cX13_manyNow 40 = .ok (.iconst 3, 1) := by decide +kernel
theorem dX13_manyNow_41 : decode cX13_manyNow 41 = .ok (.aload_n 0, 1) := by decide +kernel
theorem dX13_manyNow_42 : decode cX13_manyNow 42 = .ok (.getfield 25, 3) := by decide +kernel
theorem dX13_manyNow_45 : decode cX13_manyNow 45 = .ok (.getfield 179, 3) := by decide +kernel
theorem dX13_manyNow_48 : decode cX13_manyNow 48 = .ok (.iastore, 1) := by decide +kernel
theorem dX13_manyNow_49 : decode cX13_manyNow 49 = .ok (.dup, 1) := by decide +kernel
theorem dX13_manyNow_50 : decode cX13_manyNow 50 = .ok (.iconst 4, 1) := by decide +kernel
theorem dX13_manyNow_51 : decode cX13_manyNow 51 = .ok (.aload_n 0, 1) := by decide +kernel
theorem dX13_manyNow_52 : decode cX13_manyNow 52 = .ok (.getfield 25, 3) := by decide +kernel
theorem dX13_manyNow_55 : decode cX13_manyNow 55 = .ok (.getfield 106, 3) := by decide +kernel
theorem dX13_manyNow_58 : decode cX13_manyNow 58 = .ok (.ifCond .eq 7, 3) := by decide +kernel
theorem dX13_manyNow_65 : decode cX13_manyNow 65 = .ok (.iconst 0, 1) := by decide +kernel
theorem dX13_manyNow_66 : decode cX13_manyNow 66 = .ok (.iastore, 1) := by decide +kernel
theorem dX13_manyNow_67 : decode cX13_manyNow 67 = .ok (.astore_n 2, 1) := by decide +kernel
theorem dX13_manyNow_68 : decode cX13_manyNow 68 = .ok (.aload_n 2, 1) := by decide +kernel
theorem dX13_manyNow_69 : decode cX13_manyNow 69 = .ok (.iload_n 1, 1) := by decide +kernel
theorem dX13_manyNow_70 : decode cX13_manyNow 70 = .ok (.iaload, 1) := by decide +kernel
theorem dX13_manyNow_71 : decode cX13_manyNow 71 = .ok (.ireturn, 1) := by decide +kernel
theorem dX13_meanSize_0 : decode cX13_meanSize 0 = .ok (.aload_n 0, 1) := by decide +kernel
theorem dX13_meanSize_1 : decode cX13_meanSize 1 = .ok (.iconst 0, 1) := by decide +kernel
theorem dX13_meanSize_2 : decode cX13_meanSize 2 = .ok (.putfield 38, 3) := by decide +kernel
theorem dX13_meanSize_5 : decode cX13_meanSize 5 = .ok (.iconst 0, 1) := by decide +kernel
theorem dX13_meanSize_6 : decode cX13_meanSize 6 = .ok (.istore_n 1, 1) := by decide +kernel
theorem dX13_meanSize_7 : decode cX13_meanSize 7 = .ok (.aload_n 0, 1) := by decide +kernel
theorem dX13_meanSize_8 : decode cX13_meanSize 8 = .ok (.getfield 25, 3) := by decide +kernel
theorem dX13_meanSize_11 : decode cX13_meanSize 11 = .ok (.getfield 168, 3) := by decide +kernel
theorem dX13_meanSize_14 : decode cX13_meanSize 14 = .ok (.invokevirtual 206, 3) := by decide +kernel
theorem dX13_meanSize_17 : decode cX13_meanSize 17 = .ok (.astore_n 2, 1) := by decide +kernel
theorem dX13_meanSize_18 : decode cX13_meanSize 18 = .ok (.aload_n 2, 1) := by decide +kernel
theorem dX13_meanSize_19 : decode cX13_meanSize 19 = .ok (.invokeinterface 210 1, 5) := by decide +kernel
theorem dX13_meanSize_24 : decode cX13_meanSize 24 = .ok (.ifCond .eq 23, 3) := by decide +kernel
theorem dX13_meanSize_47 : decode cX13_meanSize 47 = .ok (.aload_n 0, 1) := by decide +kernel
theorem dX13_meanSize_48 : decode cX13_meanSize 48 = .ok (.getfield 25, 3) := by decide +kernel
theorem dX13_meanSize_51 : decode cX13_meanSize 51 = .ok (.getfield 168, 3) := by decide +kernel
theorem dX13_meanSize_54 : decode cX13_meanSize 54 = .ok (.invokevirtual 113, 3) := by decide +kernel
theorem dX13_meanSize_57 : decode cX13_meanSize 57 = .ok (.ifCond .eq 7, 3) := by decide +kernel
theorem dX13_meanSize_60 : decode cX13_meanSize 60 = .ok (.dconst 0, 1) := by decide +kernel
theorem dX13_meanSize_61 : decode cX13_meanSize 61 = .ok (.goto 17, 3) := by decide +kernel
theorem dX13_meanSize_78 : decode cX13_meanSize 78 = .ok (.dreturn, 1) := by decide +kernel
theorem dX13_meet__0 : decode cX13_meet_ 0 = .ok (.aload_n 0, 1) := by decide +kernel
theorem dX13_meet__1 : decode cX13_meet_ 1 = .ok (.iconst 0, 1) := by decide +kernel
theorem dX13_meet__2 : decode cX13_meet_ 2 = .ok (.putfield 38, 3) := by decide +kernel
theorem dX13_meet__5 : decode cX13_meet_ 5 = .ok (.aload_n 0, 1) := by decide +kernel
theorem dX13_meet__6 : decode cX13_meet_ 6 = .ok (.iload_n 1, 1) := by decide +kernel
theorem dX13_meet__7 : decode cX13_meet_ 7 = .ok (.invokevirtual 150, 3) := by decide +kernel
theorem dX13_meet__10 : decode cX13_meet_ 10 = .ok (.ifCond .eq 11, 3) := by decide +kernel
theorem dX13_meet__21 : decode cX13_meet_ 21 = .ok (.aload_n 0, 1) := by decide +kernel
theorem dX13_meet__22 : decode cX13_meet_ 22 = .ok (.iconst 1, 1) := by decide +kernel
theorem dX13_meet__23 : decode cX13_meet_ 23 = .ok (.invokevirtual 144, 3) := by decide +kernel
theorem dX13_meet__26 : decode cX13_meet_ 26 = .ok (.ireturn, 1) := by decide +kernel
theorem dX13_normal_0 : decode cX13_normal 0 = .ok (.aload_n 0, 1) := by decide +kernel
theorem dX13_normal_1 : decode cX13_normal 1 = .ok (.iconst 0, 1) := by decide +kernel
theorem dX13_normal_2 : decode cX13_normal 2 = .ok (.putfield 38, 3) := by decide +kernel
theorem dX13_normal_5 : decode cX13_normal 5 = .ok (.aload_n 0, 1) := by decide +kernel
theorem dX13_normal_6 : decode cX13_normal 6 = .ok (.iload_n 1, 1) := by decide +kernel
theorem dX13_normal_7 : decode cX13_normal 7 = .ok (.invokevirtual 150, 3) := by decide +kernel
theorem dX13_normal_10 : decode cX13_normal 10 = .ok (.ifCond .eq 16, 3) := by decide +kernel
theorem dX13_normal_26 : decode cX13_normal 26 = .ok (.aload_n 0, 1) := by decide +kernel
theorem dX13_normal_27 : decode cX13_normal 27 = .ok (.iconst 1, 1) := by decide +kernel
theorem dX13_normal_28 : decode cX13_normal 28 = .ok (.invokevirtual 144, 3) := by decide +kernel
theorem dX13_normal_31 : decode cX13_normal 31 = .ok (.ireturn, 1) := by decide +kernel
theorem dX13_number_0 : decode cX13_number 0 = .ok (.iconst 0, 1) := by decide +kernel
theorem dX13_number_1 : decode cX13_number 1 = .ok (.istore_n 2, 1) := by decide +kernel
theorem dX13_number_2 : decode cX13_number 2 = .ok (.iload_n 2, 1) := by decide +kernel
theorem dX13_number_3 : decode cX13_number 3 = .ok (.aload_n 0, 1) := by decide +kernel
theorem dX13_number_4 : decode cX13_number 4 = .ok (.getfield 10, 3) := by decide +kernel
theorem dX13_number_7 : decode cX13_number 7 = .ok (.invokevirtual 124, 3) := by decide +kernel
theorem dX13_number_10 : decode cX13_number 10 = .ok (.if_icmp .ge 29, 3) := by decide +kernel
theorem dX13_number_39 : decode cX13_number 39 = .ok (.aload_n 0, 1) := by decide +kernel
theorem dX13_number_40 : decode cX13_number 40 = .ok (.getfield 10, 3) := by decide +kernel
theorem dX13_number_43 : decode cX13_number 43 = .ok (.invokevirtual 124, 3) := by decide +kernel
theorem dX13_number_46 : decode cX13_number 46 = .ok (.bipush 60, 2) := by decide +kernel
theorem dX13_number_48 : decode cX13_number 48 = .ok (.if_icmp .ne 5, 3) := by decide +kernel
theorem dX13_number_53 : decode cX13_number 53 = .ok (.aload_n 0, 1) := by decide +kernel
theorem dX13_number_54 : decode cX13_number 54 = .ok (.getfield 10, 3) := by decide +kernel
theorem dX13_number_57 : decode cX13_number 57 = .ok (.aload_n 1, 1) := by decide +kernel
theorem dX13_number_58 : decode cX13_number 58 = .ok (.invokevirtual 136, 3) := by decide +kernel
theorem dX13_number_61 : decode cX13_number 61 = .ok (.pop, 1) := by decide +kernel
theorem dX13_number_62 : decode cX13_number 62 = .ok (.aload_n 0, 1) := by decide +kernel
theorem dX13_number_63 : decode cX13_number 63 = .ok (.getfield 10, 3) := by decide +kernel
theorem dX13_number_66 : decode cX13_number 66 = .ok (.invokevirtual 124, 3) := by decide +kernel
theorem dX13_number_69 : decode cX13_number 69 = .ok (.iconst 1, 1) := by decide +kernel
theorem dX13_number_70 : decode cX13_number 70 = .ok (.isub, 1) := by decide +kernel
theorem dX13_number_71 : decode cX13_number 71 = .ok (.ireturn, 1) := by decide +kernel
theorem dX13_numberOr_0 : decode cX13_numberOr 0 = .ok (.aload_n 0, 1) := by decide +kernel
theorem dX13_numberOr_1 : decode cX13_numberOr 1 = .ok (.aload_n 1, 1) := by decide +kernel
theorem dX13_numberOr_2 : decode cX13_numberOr 2 = .ok (.invokevirtual 140, 3) := by decide +kernel
theorem dX13_numberOr_5 : decode cX13_numberOr 5 = .ok (.istore_n 3, 1) := by decide +kernel
theorem dX13_numberOr_6 : decode cX13_numberOr 6 = .ok (.iload_n 3, 1) := by decide +kernel
theorem dX13_numberOr_7 : decode cX13_numberOr 7 = .ok (.iconst (-1), 1) := by decide +kernel
theorem dX13_numberOr_8 : decode cX13_numberOr 8 = .ok (.if_icmp .ne 11, 3) := by decide +kernel
theorem dX13_numberOr_19 : decode cX13_numberOr 19 = .ok (.iload_n 3, 1) := by decide +kernel
theorem dX13_numberOr_20 : decode cX13_numberOr 20 = .ok (.ireturn, 1) := by decide +kernel
theorem dX13_ofTerm_0 : decode cX13_ofTerm 0 = .ok (.aload_n 0, 1) := by decide +kernel
theorem dX13_ofTerm_1 : decode cX13_ofTerm 1 = .ok (.iconst 0, 1) := by decide +kernel
theorem dX13_ofTerm_2 : decode cX13_ofTerm 2 = .ok (.putfield 38, 3) := by decide +kernel
theorem dX13_ofTerm_5 : decode cX13_ofTerm 5 = .ok (.aload_n 0, 1) := by decide +kernel
theorem dX13_ofTerm_6 : decode cX13_ofTerm 6 = .ok (.iload_n 1, 1) := by decide +kernel
theorem dX13_ofTerm_7 : decode cX13_ofTerm 7 = .ok (.invokevirtual 150, 3) := by decide +kernel
theorem dX13_ofTerm_10 : decode cX13_ofTerm 10 = .ok (.ifCond .ne 9, 3) := by decide +kernel
theorem dX13_ofTerm_13 : decode cX13_ofTerm 13 = .ok (.aload_n 0, 1) := by decide +kernel
theorem dX13_ofTerm_14 : decode cX13_ofTerm 14 = .ok (.iconst 1, 1) := by decide +kernel
theorem dX13_ofTerm_15 : decode cX13_ofTerm 15 = .ok (.invokevirtual 144, 3) := by decide +kernel
theorem dX13_ofTerm_18 : decode cX13_ofTerm 18 = .ok (.ireturn, 1) := by decide +kernel
theorem dX13_overlaps_0 : decode cX13_overlaps 0 = .ok (.aload_n 0, 1) := by decide +kernel
theorem dX13_overlaps_1 : decode cX13_overlaps 1 = .ok (.iconst 0, 1) := by decide +kernel
theorem dX13_overlaps_2 : decode cX13_overlaps 2 = .ok (.putfield 38, 3) := by decide +kernel
theorem dX13_overlaps_5 : decode cX13_overlaps 5 = .ok (.aload_n 0, 1) := by decide +kernel
theorem dX13_overlaps_6 : decode cX13_overlaps 6 = .ok (.iload_n 1, 1) := by decide +kernel
theorem dX13_overlaps_7 : decode cX13_overlaps 7 = .ok (.invokevirtual 170, 3) := by decide +kernel
theorem dX13_overlaps_10 : decode cX13_overlaps 10 = .ok (.ifCond .eq 48, 3) := by decide +kernel
theorem dX13_overlaps_58 : decode cX13_overlaps 58 = .ok (.aload_n 0, 1) := by decide +kernel
theorem dX13_overlaps_59 : decode cX13_overlaps 59 = .ok (.iconst 1, 1) := by decide +kernel
theorem dX13_overlaps_60 : decode cX13_overlaps 60 = .ok (.invokevirtual 144, 3) := by decide +kernel
theorem dX13_overlaps_63 : decode cX13_overlaps 63 = .ok (.ireturn, 1) := by decide +kernel
theorem dX13_parts_0 : decode cX13_parts 0 = .ok (.iload_n 0, 1) := by decide +kernel
theorem dX13_parts_1 : decode cX13_parts 1 = .ok (.iconst 2, 1) := by decide +kernel
theorem dX13_parts_2 : decode cX13_parts 2 = .ok (.if_icmp .lt 8, 3) := by decide +kernel
theorem dX13_parts_5 : decode cX13_parts 5 = .ok (.iload_n 0, 1) := by decide +kernel
theorem dX13_parts_6 : decode cX13_parts 6 = .ok (.iconst 5, 1) := by decide +kernel
theorem dX13_parts_7 : decode cX13_parts 7 = .ok (.if_icmp .le 7, 3) := by decide +kernel
theorem dX13_parts_10 : decode cX13_parts 10 = .ok (.iconst 0, 1) := by decide +kernel
theorem dX13_parts_11 : decode cX13_parts 11 = .ok (.goto 13, 3) := by decide +kernel
theorem dX13_parts_14 : decode cX13_parts 14 = .ok (.iload_n 0, 1) := by decide +kernel
theorem dX13_parts_15 : decode cX13_parts 15 = .ok (.iconst 4, 1) := by decide +kernel
theorem dX13_parts_16 : decode cX13_parts 16 = .ok (.if_icmp .ge 7, 3) := by decide +kernel
theorem dX13_parts_19 : decode cX13_parts 19 = .ok (.iconst 1, 1) := by decide +kernel
theorem dX13_parts_20 : decode cX13_parts 20 = .ok (.goto 4, 3) := by decide +kernel
theorem dX13_parts_23 : decode cX13_parts 23 = .ok (.iconst 2, 1) := by decide +kernel
theorem dX13_parts_24 : decode cX13_parts 24 = .ok (.ireturn, 1) := by decide +kernel
theorem dX13_proof_0 : decode cX13_proof 0 = .ok (.aload_n 0, 1) := by decide +kernel
theorem dX13_proof_1 : decode cX13_proof 1 = .ok (.iconst 0, 1) := by decide +kernel
theorem dX13_proof_2 : decode cX13_proof 2 = .ok (.putfield 38, 3) := by decide +kernel
theorem dX13_proof_5 : decode cX13_proof 5 = .ok (.aload_n 0, 1) := by decide +kernel
theorem dX13_proof_6 : decode cX13_proof 6 = .ok (.iload_n 1, 1) := by decide +kernel
theorem dX13_proof_7 : decode cX13_proof 7 = .ok (.invokevirtual 218, 3) := by decide +kernel
theorem dX13_proof_10 : decode cX13_proof 10 = .ok (.ifCond .ne 9, 3) := by decide +kernel
theorem dX13_proof_13 : decode cX13_proof 13 = .ok (.aload_n 0, 1) := by decide +kernel
theorem dX13_proof_14 : decode cX13_proof 14 = .ok (.iconst 1, 1) := by decide +kernel
theorem dX13_proof_15 : decode cX13_proof 15 = .ok (.invokevirtual 144, 3) := by decide +kernel
theorem dX13_proof_18 : decode cX13_proof 18 = .ok (.ireturn, 1) := by decide +kernel
theorem dX13_refuse_0 : decode cX13_refuse 0 = .ok (.aload_n 0, 1) := by decide +kernel
theorem dX13_refuse_1 : decode cX13_refuse 1 = .ok (.iload_n 1, 1) := by decide +kernel
theorem dX13_refuse_2 : decode cX13_refuse 2 = .ok (.putfield 38, 3) := by decide +kernel
theorem dX13_refuse_5 : decode cX13_refuse 5 = .ok (.iconst 0, 1) := by decide +kernel
theorem dX13_refuse_6 : decode cX13_refuse 6 = .ok (.ireturn, 1) := by decide +kernel
theorem dX13_rights_0 : decode cX13_rights 0 = .ok (.aload_n 0, 1) := by decide +kernel
theorem dX13_rights_1 : decode cX13_rights 1 = .ok (.getfield 19, 3) := by decide +kernel
theorem dX13_rights_4 : decode cX13_rights 4 = .ok (.invokevirtual 124, 3) := by decide +kernel
theorem dX13_rights_7 : decode cX13_rights 7 = .ok (.newarray .boolean, 2) := by decide +kernel
theorem dX13_rights_9 : decode cX13_rights 9 = .ok (.astore_n 1, 1) := by decide +kernel
theorem dX13_rights_10 : decode cX13_rights 10 = .ok (.iconst 0, 1) := by decide +kernel
theorem dX13_rights_11 : decode cX13_rights 11 = .ok (.istore_n 2, 1) := by decide +kernel
theorem dX13_rights_12 : decode cX13_rights 12 = .ok (.iload_n 2, 1) := by decide +kernel
theorem dX13_rights_13 : decode cX13_rights 13 = .ok (.aload_n 1, 1) := by decide +kernel
theorem dX13_rights_14 : decode cX13_rights 14 = .ok (.arraylength, 1) := by decide +kernel
theorem dX13_rights_15 : decode cX13_rights 15 = .ok (.if_icmp .ge 71, 3) := by decide +kernel
theorem dX13_rights_86 : decode cX13_rights 86 = .ok (.aload_n 1, 1) := by decide +kernel
theorem dX13_rights_87 : decode cX13_rights 87 = .ok (.areturn, 1) := by decide +kernel
theorem dX13_rule_0 : decode cX13_rule 0 = .ok (.aload_n 0, 1) := by decide +kernel
theorem dX13_rule_1 : decode cX13_rule 1 = .ok (.iconst 0, 1) := by decide +kernel
theorem dX13_rule_2 : decode cX13_rule 2 = .ok (.putfield 38, 3) := by decide +kernel
theorem dX13_rule_5 : decode cX13_rule 5 = .ok (.aload_n 0, 1) := by decide +kernel
theorem dX13_rule_6 : decode cX13_rule 6 = .ok (.iload_n 1, 1) := by decide +kernel
theorem dX13_rule_7 : decode cX13_rule 7 = .ok (.invokevirtual 170, 3) := by decide +kernel
theorem dX13_rule_10 : decode cX13_rule 10 = .ok (.ifCond .eq 35, 3) := by decide +kernel
theorem dX13_rule_45 : decode cX13_rule 45 = .ok (.aload_n 0, 1) := by decide +kernel
theorem dX13_rule_46 : decode cX13_rule 46 = .ok (.iconst 1, 1) := by decide +kernel
theorem dX13_rule_47 : decode cX13_rule 47 = .ok (.invokevirtual 144, 3) := by decide +kernel
theorem dX13_rule_50 : decode cX13_rule 50 = .ok (.ireturn, 1) := by decide +kernel
theorem dX13_rulesAfter_0 : decode cX13_rulesAfter 0 = .ok (.aload_n 0, 1) := by decide +kernel
theorem dX13_rulesAfter_1 : decode cX13_rulesAfter 1 = .ok (.iconst 0, 1) := by decide +kernel
theorem dX13_rulesAfter_2 : decode cX13_rulesAfter 2 = .ok (.putfield 38, 3) := by decide +kernel
theorem dX13_rulesAfter_5 : decode cX13_rulesAfter 5 = .ok (.iload_n 1, 1) := by decide +kernel
theorem dX13_rulesAfter_6 : decode cX13_rulesAfter 6 = .ok (.iconst 1, 1) := by decide +kernel
theorem dX13_rulesAfter_7 : decode cX13_rulesAfter 7 = .ok (.iconst 3, 1) := by decide +kernel
theorem dX13_rulesAfter_8 : decode cX13_rulesAfter 8 = .ok (.invokestatic 128, 3) := by decide +kernel
theorem dX13_rulesAfter_11 : decode cX13_rulesAfter 11 = .ok (.ifCond .eq 20, 3) := by decide +kernel
theorem dX13_rulesAfter_14 : decode cX13_rulesAfter 14 = .ok (.aload_n 0, 1) := by decide +kernel
theorem dX13_rulesAfter_15 : decode cX13_rulesAfter 15 = .ok (.getfield 25, 3) := by decide +kernel
theorem dX13_rulesAfter_18 : decode cX13_rulesAfter 18 = .ok (.iload_n 1, 1) := by decide +kernel
theorem dX13_rulesAfter_19 : decode cX13_rulesAfter 19 = .ok (.invokestatic 164, 3) := by decide +kernel
theorem dX13_rulesAfter_22 : decode cX13_rulesAfter 22 = .ok (.getfield 168, 3) := by decide +kernel
theorem dX13_rulesAfter_25 : decode cX13_rulesAfter 25 = .ok (.invokevirtual 124, 3) := by decide +kernel
theorem dX13_rulesAfter_28 : decode cX13_rulesAfter 28 = .ok (.goto 8, 3) := by decide +kernel
theorem dX13_rulesAfter_31 : decode cX13_rulesAfter 31 = .ok (.aload_n 0, 1) := by decide +kernel
theorem dX13_rulesAfter_32 : decode cX13_rulesAfter 32 = .ok (.iconst 1, 1) := by decide +kernel
theorem dX13_rulesAfter_33 : decode cX13_rulesAfter 33 = .ok (.invokevirtual 144, 3) := by decide +kernel
theorem dX13_rulesAfter_36 : decode cX13_rulesAfter 36 = .ok (.ireturn, 1) := by decide +kernel
theorem dX13_sizeWithout_0 : decode cX13_sizeWithout 0 = .ok (.aload_n 0, 1) := by decide +kernel
theorem dX13_sizeWithout_1 : decode cX13_sizeWithout 1 = .ok (.iconst 0, 1) := by decide +kernel
theorem dX13_sizeWithout_2 : decode cX13_sizeWithout 2 = .ok (.putfield 38, 3) := by decide +kernel
theorem dX13_sizeWithout_5 : decode cX13_sizeWithout 5 = .ok (.aload_n 0, 1) := by decide +kernel
theorem dX13_sizeWithout_6 : decode cX13_sizeWithout 6 = .ok (.iload_n 1, 1) := by decide +kernel
theorem dX13_sizeWithout_7 : decode cX13_sizeWithout 7 = .ok (.invokevirtual 170, 3) := by decide +kernel
theorem dX13_sizeWithout_10 : decode cX13_sizeWithout 10 = .ok (.ifCond .eq 11, 3) := by decide +kernel
theorem dX13_sizeWithout_21 : decode cX13_sizeWithout 21 = .ok (.aload_n 0, 1) := by decide +kernel
theorem dX13_sizeWithout_22 : decode cX13_sizeWithout 22 = .ok (.iconst 1, 1) := by decide +kernel
theorem dX13_sizeWithout_23 : decode cX13_sizeWithout 23 = .ok (.invokevirtual 144, 3) := by decide +kernel
theorem dX13_sizeWithout_26 : decode cX13_sizeWithout 26 = .ok (.ireturn, 1) := by decide +kernel
theorem dX13_steps_0 : decode cX13_steps 0 = .ok (.aload_n 0, 1) := by decide +kernel
theorem dX13_steps_1 : decode cX13_steps 1 = .ok (.iconst 0, 1) := by decide +kernel
theorem dX13_steps_2 : decode cX13_steps 2 = .ok (.putfield 38, 3) := by decide +kernel
theorem dX13_steps_5 : decode cX13_steps 5 = .ok (.aload_n 0, 1) := by decide +kernel
theorem dX13_steps_6 : decode cX13_steps 6 = .ok (.iload_n 1, 1) := by decide +kernel
theorem dX13_steps_7 : decode cX13_steps 7 = .ok (.invokevirtual 150, 3) := by decide +kernel
theorem dX13_steps_10 : decode cX13_steps 10 = .ok (.ifCond .eq 11, 3) := by decide +kernel
theorem dX13_steps_21 : decode cX13_steps 21 = .ok (.aload_n 0, 1) := by decide +kernel
theorem dX13_steps_22 : decode cX13_steps 22 = .ok (.iconst 1, 1) := by decide +kernel
theorem dX13_steps_23 : decode cX13_steps 23 = .ok (.invokevirtual 144, 3) := by decide +kernel
theorem dX13_steps_26 : decode cX13_steps 26 = .ok (.ireturn, 1) := by decide +kernel
theorem dX13_term_0 : decode cX13_term 0 = .ok (.aload_n 0, 1) := by decide +kernel
theorem dX13_term_1 : decode cX13_term 1 = .ok (.iconst 0, 1) := by decide +kernel
theorem dX13_term_2 : decode cX13_term 2 = .ok (.putfield 38, 3) := by decide +kernel
theorem dX13_term_5 : decode cX13_term 5 = .ok (.iload_n 1, 1) := by decide +kernel
theorem dX13_term_6 : decode cX13_term 6 = .ok (.iconst 0, 1) := by decide +kernel
theorem dX13_term_7 : decode cX13_term 7 = .ok (.iconst 5, 1) := by decide +kernel
theorem dX13_term_8 : decode cX13_term 8 = .ok (.invokestatic 128, 3) := by decide +kernel
theorem dX13_term_11 : decode cX13_term 11 = .ok (.ifCond .eq 10, 3) := by decide +kernel
theorem dX13_term_14 : decode cX13_term 14 = .ok (.iload_n 1, 1) := by decide +kernel
theorem dX13_term_15 : decode cX13_term 15 = .ok (.invokestatic 42, 3) := by decide +kernel
theorem dX13_term_18 : decode cX13_term 18 = .ok (.goto 4, 3) := by decide +kernel
theorem dX13_term_21 : decode cX13_term 21 = .ok (.iconst 0, 1) := by decide +kernel
theorem dX13_term_22 : decode cX13_term 22 = .ok (.istore 4, 2) := by decide +kernel
theorem dX13_term_24 : decode cX13_term 24 = .ok (.iload 4, 2) := by decide +kernel
theorem dX13_term_26 : decode cX13_term 26 = .ok (.ifCond .le 11, 3) := by decide +kernel
theorem dX13_term_29 : decode cX13_term 29 = .ok (.aload_n 0, 1) := by decide +kernel
theorem dX13_term_30 : decode cX13_term 30 = .ok (.iload_n 2, 1) := by decide +kernel
theorem dX13_term_31 : decode cX13_term 31 = .ok (.invokevirtual 150, 3) := by decide +kernel
theorem dX13_term_34 : decode cX13_term 34 = .ok (.ifCond .eq 17, 3) := by decide +kernel
theorem dX13_term_37 : decode cX13_term 37 = .ok (.iload 4, 2) := by decide +kernel
theorem dX13_term_39 : decode cX13_term 39 = .ok (.iconst 1, 1) := by decide +kernel
theorem dX13_term_40 : decode cX13_term 40 = .ok (.if_icmp .le 17, 3) := by decide +kernel
theorem dX13_term_51 : decode cX13_term 51 = .ok (.aload_n 0, 1) := by decide +kernel
theorem dX13_term_52 : decode cX13_term 52 = .ok (.iconst 1, 1) := by decide +kernel
theorem dX13_term_53 : decode cX13_term 53 = .ok (.invokevirtual 144, 3) := by decide +kernel
theorem dX13_term_56 : decode cX13_term 56 = .ok (.ireturn, 1) := by decide +kernel
theorem dX13_term_57 : decode cX13_term 57 = .ok (.iload_n 1, 1) := by decide +kernel
theorem dX13_term_58 : decode cX13_term 58 = .ok (.iconst 0, 1) := by decide +kernel
theorem dX13_term_59 : decode cX13_term 59 = .ok (.iconst 5, 1) := by decide +kernel
theorem dX13_term_60 : decode cX13_term 60 = .ok (.invokestatic 128, 3) := by decide +kernel
theorem dX13_term_63 : decode cX13_term 63 = .ok (.ifCond .ne 9, 3) := by decide +kernel
theorem dX13_term_66 : decode cX13_term 66 = .ok (.aload_n 0, 1) := by decide +kernel
theorem dX13_term_67 : decode cX13_term 67 = .ok (.iconst 2, 1) := by decide +kernel
theorem dX13_term_68 : decode cX13_term 68 = .ok (.invokevirtual 144, 3) := by decide +kernel
theorem dX13_term_71 : decode cX13_term 71 = .ok (.ireturn, 1) := by decide +kernel
theorem dX13_term_72 : decode cX13_term 72 = .ok (.iload 4, 2) := by decide +kernel
theorem dX13_term_74 : decode cX13_term 74 = .ok (.ifCond .le 17, 3) := by decide +kernel
theorem dX13_term_91 : decode cX13_term 91 = .ok (.iconst 0, 1) := by decide +kernel
theorem dX13_term_92 : decode cX13_term 92 = .ok (.newarray .int, 2) := by decide +kernel
theorem dX13_term_94 : decode cX13_term 94 = .ok (.astore 5, 2) := by decide +kernel
theorem dX13_term_96 : decode cX13_term 96 = .ok (.iload 4, 2) := by decide +kernel
theorem dX13_term_98 : decode cX13_term 98 = .ok (.iconst 1, 1) := by decide +kernel
theorem dX13_term_99 : decode cX13_term 99 = .ok (.if_icmp .le 17, 3) := by decide +kernel
theorem dX13_term_116 : decode cX13_term 116 = .ok (.iconst 0, 1) := by decide +kernel
theorem dX13_term_117 : decode cX13_term 117 = .ok (.newarray .int, 2) := by decide +kernel
theorem dX13_term_119 : decode cX13_term 119 = .ok (.astore 6, 2) := by decide +kernel
theorem dX13_term_121 : decode cX13_term 121 = .ok (.iconst 1, 1) := by decide +kernel
theorem dX13_term_122 : decode cX13_term 122 = .ok (.aload 5, 2) := by decide +kernel
theorem dX13_term_124 : decode cX13_term 124 = .ok (.arraylength, 1) := by decide +kernel
theorem dX13_term_125 : decode cX13_term 125 = .ok (.iadd, 1) := by decide +kernel
theorem dX13_term_126 : decode cX13_term 126 = .ok (.aload 6, 2) := by decide +kernel
theorem dX13_term_128 : decode cX13_term 128 = .ok (.arraylength, 1) := by decide +kernel
theorem dX13_term_129 : decode cX13_term 129 = .ok (.iadd, 1) := by decide +kernel
theorem dX13_term_130 : decode cX13_term 130 = .ok (.bipush 12, 2) := by decide +kernel
theorem dX13_term_132 : decode cX13_term 132 = .ok (.if_icmp .le 9, 3) := by decide +kernel
theorem dX13_term_141 : decode cX13_term 141 = .ok (.iconst 1, 1) := by decide +kernel
theorem dX13_term_142 : decode cX13_term 142 = .ok (.aload 5, 2) := by decide +kernel
theorem dX13_term_144 : decode cX13_term 144 = .ok (.arraylength, 1) := by decide +kernel
theorem dX13_term_145 : decode cX13_term 145 = .ok (.iadd, 1) := by decide +kernel
theorem dX13_term_146 : decode cX13_term 146 = .ok (.aload 6, 2) := by decide +kernel
theorem dX13_term_148 : decode cX13_term 148 = .ok (.arraylength, 1) := by decide +kernel
theorem dX13_term_149 : decode cX13_term 149 = .ok (.iadd, 1) := by decide +kernel
theorem dX13_term_150 : decode cX13_term 150 = .ok (.newarray .int, 2) := by decide +kernel
theorem dX13_term_152 : decode cX13_term 152 = .ok (.astore 7, 2) := by decide +kernel
theorem dX13_term_154 : decode cX13_term 154 = .ok (.aload 7, 2) := by decide +kernel
theorem dX13_term_156 : decode cX13_term 156 = .ok (.iconst 0, 1) := by decide +kernel
theorem dX13_term_157 : decode cX13_term 157 = .ok (.iload_n 1, 1) := by decide +kernel
theorem dX13_term_158 : decode cX13_term 158 = .ok (.iastore, 1) := by decide +kernel
theorem dX13_term_159 : decode cX13_term 159 = .ok (.aload 5, 2) := by decide +kernel
theorem dX13_term_161 : decode cX13_term 161 = .ok (.iconst 0, 1) := by decide +kernel
theorem dX13_term_162 : decode cX13_term 162 = .ok (.aload 7, 2) := by decide +kernel
theorem dX13_term_164 : decode cX13_term 164 = .ok (.iconst 1, 1) := by decide +kernel
theorem dX13_term_165 : decode cX13_term 165 = .ok (.aload 5, 2) := by decide +kernel
theorem dX13_term_167 : decode cX13_term 167 = .ok (.arraylength, 1) := by decide +kernel
theorem dX13_term_168 : decode cX13_term 168 = .ok (.invokestatic 60, 3) := by decide +kernel
theorem dX13_term_171 : decode cX13_term 171 = .ok (.aload 6, 2) := by decide +kernel
theorem dX13_term_173 : decode cX13_term 173 = .ok (.iconst 0, 1) := by decide +kernel
theorem dX13_term_174 : decode cX13_term 174 = .ok (.aload 7, 2) := by decide +kernel
theorem dX13_term_176 : decode cX13_term 176 = .ok (.iconst 1, 1) := by decide +kernel
theorem dX13_term_177 : decode cX13_term 177 = .ok (.aload 5, 2) := by decide +kernel
theorem dX13_term_179 : decode cX13_term 179 = .ok (.arraylength, 1) := by decide +kernel
theorem dX13_term_180 : decode cX13_term 180 = .ok (.iadd, 1) := by decide +kernel
theorem dX13_term_181 : decode cX13_term 181 = .ok (.aload 6, 2) := by decide +kernel
theorem dX13_term_183 : decode cX13_term 183 = .ok (.arraylength, 1) := by decide +kernel
theorem dX13_term_184 : decode cX13_term 184 = .ok (.invokestatic 60, 3) := by decide +kernel
theorem dX13_term_187 : decode cX13_term 187 = .ok (.aload_n 0, 1) := by decide +kernel
theorem dX13_term_188 : decode cX13_term 188 = .ok (.aload 7, 2) := by decide +kernel
theorem dX13_term_190 : decode cX13_term 190 = .ok (.iconst 3, 1) := by decide +kernel
theorem dX13_term_191 : decode cX13_term 191 = .ok (.invokevirtual 147, 3) := by decide +kernel
theorem dX13_term_194 : decode cX13_term 194 = .ok (.ireturn, 1) := by decide +kernel
theorem dX13_terms_0 : decode cX13_terms 0 = .ok (.aload_n 0, 1) := by decide +kernel
theorem dX13_terms_1 : decode cX13_terms 1 = .ok (.iconst 0, 1) := by decide +kernel
theorem dX13_terms_2 : decode cX13_terms 2 = .ok (.putfield 38, 3) := by decide +kernel
theorem dX13_terms_5 : decode cX13_terms 5 = .ok (.aload_n 0, 1) := by decide +kernel
theorem dX13_terms_6 : decode cX13_terms 6 = .ok (.getfield 10, 3) := by decide +kernel
theorem dX13_terms_9 : decode cX13_terms 9 = .ok (.invokevirtual 124, 3) := by decide +kernel
theorem dX13_terms_12 : decode cX13_terms 12 = .ok (.ireturn, 1) := by decide +kernel
theorem dX13_thrown_0 : decode cX13_thrown 0 = .ok (.aload_n 0, 1) := by decide +kernel
theorem dX13_thrown_1 : decode cX13_thrown 1 = .ok (.getfield 38, 3) := by decide +kernel
theorem dX13_thrown_4 : decode cX13_thrown 4 = .ok (.ireturn, 1) := by decide +kernel
theorem dX13_unline_0 : decode cX13_unline 0 = .ok (.aload_n 0, 1) := by decide +kernel
theorem dX13_unline_1 : decode cX13_unline 1 = .ok (.iconst 0, 1) := by decide +kernel
theorem dX13_unline_2 : decode cX13_unline 2 = .ok (.putfield 38, 3) := by decide +kernel
theorem dX13_unline_5 : decode cX13_unline 5 = .ok (.aload_n 0, 1) := by decide +kernel
theorem dX13_unline_6 : decode cX13_unline 6 = .ok (.getfield 19, 3) := by decide +kernel
theorem dX13_unline_9 : decode cX13_unline 9 = .ok (.invokevirtual 113, 3) := by decide +kernel
theorem dX13_unline_12 : decode cX13_unline 12 = .ok (.ifCond .eq 9, 3) := by decide +kernel
theorem dX13_unline_15 : decode cX13_unline 15 = .ok (.aload_n 0, 1) := by decide +kernel
theorem dX13_unline_16 : decode cX13_unline 16 = .ok (.iconst 1, 1) := by decide +kernel
theorem dX13_unline_17 : decode cX13_unline 17 = .ok (.invokevirtual 144, 3) := by decide +kernel
theorem dX13_unline_20 : decode cX13_unline 20 = .ok (.ireturn, 1) := by decide +kernel
theorem dX13_variable_0 : decode cX13_variable 0 = .ok (.aload_n 0, 1) := by decide +kernel
theorem dX13_variable_1 : decode cX13_variable 1 = .ok (.iconst 0, 1) := by decide +kernel
theorem dX13_variable_2 : decode cX13_variable 2 = .ok (.putfield 38, 3) := by decide +kernel
theorem dX13_variable_5 : decode cX13_variable 5 = .ok (.iload_n 1, 1) := by decide +kernel
theorem dX13_variable_6 : decode cX13_variable 6 = .ok (.iconst 0, 1) := by decide +kernel
theorem dX13_variable_7 : decode cX13_variable 7 = .ok (.iconst 3, 1) := by decide +kernel
theorem dX13_variable_8 : decode cX13_variable 8 = .ok (.invokestatic 128, 3) := by decide +kernel
theorem dX13_variable_11 : decode cX13_variable 11 = .ok (.ifCond .ne 9, 3) := by decide +kernel
theorem dX13_variable_14 : decode cX13_variable 14 = .ok (.aload_n 0, 1) := by decide +kernel
theorem dX13_variable_15 : decode cX13_variable 15 = .ok (.iconst 1, 1) := by decide +kernel
theorem dX13_variable_16 : decode cX13_variable 16 = .ok (.invokevirtual 144, 3) := by decide +kernel
theorem dX13_variable_19 : decode cX13_variable 19 = .ok (.ireturn, 1) := by decide +kernel
theorem dX13_variable_20 : decode cX13_variable 20 = .ok (.iconst 1, 1) := by decide +kernel
theorem dX13_variable_21 : decode cX13_variable 21 = .ok (.newarray .int, 2) := by decide +kernel
theorem dX13_variable_23 : decode cX13_variable 23 = .ok (.dup, 1) := by decide +kernel
theorem dX13_variable_24 : decode cX13_variable 24 = .ok (.iconst 0, 1) := by decide +kernel
theorem dX13_variable_25 : decode cX13_variable 25 = .ok (.bipush 10, 2) := by decide +kernel
theorem dX13_variable_27 : decode cX13_variable 27 = .ok (.iload_n 1, 1) := by decide +kernel
theorem dX13_variable_28 : decode cX13_variable 28 = .ok (.iadd, 1) := by decide +kernel
theorem dX13_variable_29 : decode cX13_variable 29 = .ok (.iastore, 1) := by decide +kernel
theorem dX13_variable_30 : decode cX13_variable 30 = .ok (.astore_n 2, 1) := by decide +kernel
theorem dX13_variable_31 : decode cX13_variable 31 = .ok (.aload_n 0, 1) := by decide +kernel
theorem dX13_variable_32 : decode cX13_variable 32 = .ok (.aload_n 2, 1) := by decide +kernel
theorem dX13_variable_33 : decode cX13_variable 33 = .ok (.iconst 2, 1) := by decide +kernel
theorem dX13_variable_34 : decode cX13_variable 34 = .ok (.invokevirtual 147, 3) := by decide +kernel
theorem dX13_variable_37 : decode cX13_variable 37 = .ok (.ireturn, 1) := by decide +kernel
theorem dX1_findOrAdd_0 : decode cX1_findOrAdd 0 = .ok (.iconst 0, 1) := by decide +kernel
theorem dX1_findOrAdd_1 : decode cX1_findOrAdd 1 = .ok (.istore 4, 2) := by decide +kernel
theorem dX1_findOrAdd_3 : decode cX1_findOrAdd 3 = .ok (.iload 4, 2) := by decide +kernel
theorem dX1_findOrAdd_5 : decode cX1_findOrAdd 5 = .ok (.aload_n 0, 1) := by decide +kernel
theorem dX1_findOrAdd_6 : decode cX1_findOrAdd 6 = .ok (.getfield 28, 3) := by decide +kernel
theorem dX1_findOrAdd_9 : decode cX1_findOrAdd 9 = .ok (.if_icmp .ge 45, 3) := by decide +kernel
theorem dX1_findOrAdd_54 : decode cX1_findOrAdd 54 = .ok (.aload_n 0, 1) := by decide +kernel
theorem dX1_findOrAdd_55 : decode cX1_findOrAdd 55 = .ok (.getfield 28, 3) := by decide +kernel
theorem dX1_findOrAdd_58 : decode cX1_findOrAdd 58 = .ok (.bipush 40, 2) := by decide +kernel
theorem dX1_findOrAdd_60 : decode cX1_findOrAdd 60 = .ok (.if_icmp .lt 5, 3) := by decide +kernel
theorem dX1_findOrAdd_65 : decode cX1_findOrAdd 65 = .ok (.aload_n 0, 1) := by decide +kernel
theorem dX1_findOrAdd_66 : decode cX1_findOrAdd 66 = .ok (.getfield 9, 3) := by decide +kernel
theorem dX1_findOrAdd_69 : decode cX1_findOrAdd 69 = .ok (.aload_n 0, 1) := by decide +kernel
theorem dX1_findOrAdd_70 : decode cX1_findOrAdd 70 = .ok (.getfield 28, 3) := by decide +kernel
theorem dX1_findOrAdd_73 : decode cX1_findOrAdd 73 = .ok (.iload_n 1, 1) := by decide +kernel
theorem dX1_findOrAdd_74 : decode cX1_findOrAdd 74 = .ok (.iastore, 1) := by decide +kernel
theorem dX1_findOrAdd_75 : decode cX1_findOrAdd 75 = .ok (.aload_n 0, 1) := by decide +kernel
theorem dX1_findOrAdd_76 : decode cX1_findOrAdd 76 = .ok (.getfield 15, 3) := by decide +kernel
theorem dX1_findOrAdd_79 : decode cX1_findOrAdd 79 = .ok (.aload_n 0, 1) := by decide +kernel
theorem dX1_findOrAdd_80 : decode cX1_findOrAdd 80 = .ok (.getfield 28, 3) := by decide +kernel
theorem dX1_findOrAdd_83 : decode cX1_findOrAdd 83 = .ok (.iload_n 2, 1) := by decide +kernel
theorem dX1_findOrAdd_84 : decode cX1_findOrAdd 84 = .ok (.iastore, 1) := by decide +kernel
theorem dX1_findOrAdd_85 : decode cX1_findOrAdd 85 = .ok (.aload_n 0, 1) := by decide +kernel
theorem dX1_findOrAdd_86 : decode cX1_findOrAdd 86 = .ok (.getfield 18, 3) := by decide +kernel
theorem dX1_findOrAdd_89 : decode cX1_findOrAdd 89 = .ok (.aload_n 0, 1) := by decide +kernel
theorem dX1_findOrAdd_90 : decode cX1_findOrAdd 90 = .ok (.getfield 28, 3) := by decide +kernel
theorem dX1_findOrAdd_93 : decode cX1_findOrAdd 93 = .ok (.iload_n 3, 1) := by decide +kernel
theorem dX1_findOrAdd_94 : decode cX1_findOrAdd 94 = .ok (.iastore, 1) := by decide +kernel
theorem dX1_findOrAdd_95 : decode cX1_findOrAdd 95 = .ok (.aload_n 0, 1) := by decide +kernel
theorem dX1_findOrAdd_96 : decode cX1_findOrAdd 96 = .ok (.getfield 21, 3) := by decide +kernel
theorem dX1_findOrAdd_99 : decode cX1_findOrAdd 99 = .ok (.aload_n 0, 1) := by decide +kernel
theorem dX1_findOrAdd_100 : decode cX1_findOrAdd 100 = .ok (.getfield 28, 3) := by decide +kernel
theorem dX1_findOrAdd_103 : decode cX1_findOrAdd 103 = .ok (.aload_n 0, 1) := by decide +kernel
theorem dX1_findOrAdd_104 : decode cX1_findOrAdd 104 = .ok (.iload_n 1, 1) := by decide +kernel
theorem dX1_findOrAdd_105 : decode cX1_findOrAdd 105 = .ok (.iload_n 2, 1) := by decide +kernel
theorem dX1_findOrAdd_106 : decode cX1_findOrAdd 106 = .ok (.iload_n 3, 1) := by decide +kernel
theorem dX1_findOrAdd_107 : decode cX1_findOrAdd 107 = .ok (.invokevirtual 32, 3) := by decide +kernel
theorem dX1_findOrAdd_110 : decode cX1_findOrAdd 110 = .ok (.iastore, 1) := by decide +kernel
theorem dX1_findOrAdd_111 : decode cX1_findOrAdd 111 = .ok (.aload_n 0, 1) := by decide +kernel
theorem dX1_findOrAdd_112 : decode cX1_findOrAdd 112 = .ok (.dup, 1) := by decide +kernel
theorem dX1_findOrAdd_113 : decode cX1_findOrAdd 113 = .ok (.getfield 28, 3) := by decide +kernel
theorem dX1_findOrAdd_116 : decode cX1_findOrAdd 116 = .ok (.iconst 1, 1) := by decide +kernel
theorem dX1_findOrAdd_117 : decode cX1_findOrAdd 117 = .ok (.iadd, 1) := by decide +kernel
theorem dX1_findOrAdd_118 : decode cX1_findOrAdd 118 = .ok (.putfield 28, 3) := by decide +kernel
theorem dX1_findOrAdd_121 : decode cX1_findOrAdd 121 = .ok (.aload_n 0, 1) := by decide +kernel
theorem dX1_findOrAdd_122 : decode cX1_findOrAdd 122 = .ok (.getfield 28, 3) := by decide +kernel
theorem dX1_findOrAdd_125 : decode cX1_findOrAdd 125 = .ok (.iconst 1, 1) := by decide +kernel
theorem dX1_findOrAdd_126 : decode cX1_findOrAdd 126 = .ok (.isub, 1) := by decide +kernel
theorem dX1_findOrAdd_127 : decode cX1_findOrAdd 127 = .ok (.ireturn, 1) := by decide +kernel
theorem dX1_init_0 : decode cX1_init 0 = .ok (.aload_n 0, 1) := by decide +kernel
theorem dX1_init_1 : decode cX1_init 1 = .ok (.invokespecial 3, 3) := by decide +kernel
theorem dX1_init_4 : decode cX1_init 4 = .ok (.aload_n 0, 1) := by decide +kernel
theorem dX1_init_5 : decode cX1_init 5 = .ok (.bipush 40, 2) := by decide +kernel
theorem dX1_init_7 : decode cX1_init 7 = .ok (.newarray .int, 2) := by decide +kernel
theorem dX1_init_9 : decode cX1_init 9 = .ok (.putfield 9, 3) := by decide +kernel
theorem dX1_init_12 : decode cX1_init 12 = .ok (.aload_n 0, 1) := by decide +kernel
theorem dX1_init_13 : decode cX1_init 13 = .ok (.bipush 40, 2) := by decide +kernel
theorem dX1_init_15 : decode cX1_init 15 = .ok (.newarray .int, 2) := by decide +kernel
theorem dX1_init_17 : decode cX1_init 17 = .ok (.putfield 15, 3) := by decide +kernel
theorem dX1_init_20 : decode cX1_init 20 = .ok (.aload_n 0, 1) := by decide +kernel
theorem dX1_init_21 : decode cX1_init 21 = .ok (.bipush 40, 2) := by decide +kernel
theorem dX1_init_23 : decode cX1_init 23 = .ok (.newarray .int, 2) := by decide +kernel
theorem dX1_init_25 : decode cX1_init 25 = .ok (.putfield 18, 3) := by decide +kernel
theorem dX1_init_28 : decode cX1_init 28 = .ok (.aload_n 0, 1) := by decide +kernel
theorem dX1_init_29 : decode cX1_init 29 = .ok (.bipush 40, 2) := by decide +kernel
theorem dX1_init_31 : decode cX1_init 31 = .ok (.newarray .int, 2) := by decide +kernel
theorem dX1_init_33 : decode cX1_init 33 = .ok (.putfield 21, 3) := by decide +kernel
theorem dX1_init_36 : decode cX1_init 36 = .ok (.return_, 1) := by decide +kernel
theorem dX1_weightOf_0 : decode cX1_weightOf 0 = .ok (.iload_n 1, 1) := by decide +kernel
theorem dX1_weightOf_1 : decode cX1_weightOf 1 = .ok (.iconst 2, 1) := by decide +kernel
theorem dX1_weightOf_2 : decode cX1_weightOf 2 = .ok (.if_icmp .ge 5, 3) := by decide +kernel
theorem dX1_weightOf_5 : decode cX1_weightOf 5 = .ok (.iconst 0, 1) := by decide +kernel
theorem dX1_weightOf_6 : decode cX1_weightOf 6 = .ok (.ireturn, 1) := by decide +kernel
theorem dX2_init_0 : decode cX2_init 0 = .ok (.aload_n 0, 1) := by decide +kernel
theorem dX2_init_1 : decode cX2_init 1 = .ok (.invokespecial 5, 3) := by decide +kernel
theorem dX2_init_4 : decode cX2_init 4 = .ok (.aload_n 0, 1) := by decide +kernel
theorem dX2_init_5 : decode cX2_init 5 = .ok (.bipush 56, 2) := by decide +kernel
theorem dX2_init_7 : decode cX2_init 7 = .ok (.newarray .int, 2) := by decide +kernel
theorem dX2_init_9 : decode cX2_init 9 = .ok (.putfield 11, 3) := by decide +kernel
theorem dX2_init_12 : decode cX2_init 12 = .ok (.aload_n 0, 1) := by decide +kernel
theorem dX2_init_13 : decode cX2_init 13 = .ok (.bipush 56, 2) := by decide +kernel
theorem dX2_init_15 : decode cX2_init 15 = .ok (.newarray .int, 2) := by decide +kernel
theorem dX2_init_17 : decode cX2_init 17 = .ok (.putfield 15, 3) := by decide +kernel
theorem dX2_init_20 : decode cX2_init 20 = .ok (.aload_n 0, 1) := by decide +kernel
theorem dX2_init_21 : decode cX2_init 21 = .ok (.bipush 56, 2) := by decide +kernel
theorem dX2_init_23 : decode cX2_init 23 = .ok (.newarray .int, 2) := by decide +kernel
theorem dX2_init_25 : decode cX2_init 25 = .ok (.putfield 18, 3) := by decide +kernel
theorem dX2_init_28 : decode cX2_init 28 = .ok (.aload_n 0, 1) := by decide +kernel
theorem dX2_init_29 : decode cX2_init 29 = .ok (.bipush 56, 2) := by decide +kernel
theorem dX2_init_31 : decode cX2_init 31 = .ok (.newarray .int, 2) := by decide +kernel
theorem dX2_init_33 : decode cX2_init 33 = .ok (.putfield 21, 3) := by decide +kernel
theorem dX2_init_36 : decode cX2_init 36 = .ok (.aload_n 0, 1) := by decide +kernel
theorem dX2_init_37 : decode cX2_init 37 = .ok (.bipush 56, 2) := by decide +kernel
theorem dX2_init_39 : decode cX2_init 39 = .ok (.newarray .int, 2) := by decide +kernel
theorem dX2_init_41 : decode cX2_init 41 = .ok (.putfield 24, 3) := by decide +kernel
theorem dX2_init_44 : decode cX2_init 44 = .ok (.aload_n 0, 1) := by decide +kernel
theorem dX2_init_45 : decode cX2_init 45 = .ok (.sipush 228, 3) := by decide +kernel
theorem dX2_init_48 : decode cX2_init 48 = .ok (.newarray .int, 2) := by decide +kernel
theorem dX2_init_50 : decode cX2_init 50 = .ok (.putfield 27, 3) := by decide +kernel
theorem dX2_init_53 : decode cX2_init 53 = .ok (.aload_n 0, 1) := by decide +kernel
theorem dX2_init_54 : decode cX2_init 54 = .ok (.bipush 8, 2) := by decide +kernel
theorem dX2_init_56 : decode cX2_init 56 = .ok (.newarray .int, 2) := by decide +kernel
theorem dX2_init_58 : decode cX2_init 58 = .ok (.putfield 30, 3) := by decide +kernel
theorem dX2_init_61 : decode cX2_init 61 = .ok (.aload_n 0, 1) := by decide +kernel
theorem dX2_init_62 : decode cX2_init 62 = .ok (.bipush 12, 2) := by decide +kernel
theorem dX2_init_64 : decode cX2_init 64 = .ok (.newarray .int, 2) := by decide +kernel
theorem dX2_init_66 : decode cX2_init 66 = .ok (.putfield 33, 3) := by decide +kernel
theorem dX2_init_69 : decode cX2_init 69 = .ok (.return_, 1) := by decide +kernel
theorem dX3_codeOfSign_0 : decode cX3_codeOfSign 0 = .ok (.iload_n 0, 1) := by decide +kernel
theorem dX3_codeOfSign_1 : decode cX3_codeOfSign 1 = .ok (.iconst 1, 1) := by decide +kernel
theorem dX3_codeOfSign_2 : decode cX3_codeOfSign 2 = .ok (.iadd, 1) := by decide +kernel
theorem dX3_codeOfSign_3 : decode cX3_codeOfSign 3 = .ok (.ireturn, 1) := by decide +kernel
theorem dX3_codeOfVariable_0 : decode cX3_codeOfVariable 0 = .ok (.bipush 11, 2) := by decide +kernel
theorem dX3_codeOfVariable_2 : decode cX3_codeOfVariable 2 = .ok (.iload_n 0, 1) := by decide +kernel
theorem dX3_codeOfVariable_3 : decode cX3_codeOfVariable 3 = .ok (.iadd, 1) := by decide +kernel
theorem dX3_codeOfVariable_4 : decode cX3_codeOfVariable 4 = .ok (.ireturn, 1) := by decide +kernel
theorem dX3_joined_0 : decode cX3_joined 0 = .ok (.lload_n 0, 1) := by decide +kernel
theorem dX3_joined_1 : decode cX3_joined 1 = .ok (.lload_n 2, 1) := by decide +kernel
theorem dX3_joined_2 : decode cX3_joined 2 = .ok (.iconst 4, 1) := by decide +kernel
theorem dX3_joined_3 : decode cX3_joined 3 = .ok (.lload_n 0, 1) := by decide +kernel
theorem dX3_joined_4 : decode cX3_joined 4 = .ok (.invokestatic 19, 3) := by decide +kernel
theorem dX3_joined_7 : decode cX3_joined 7 = .ok (.imul, 1) := by decide +kernel
theorem dX3_joined_8 : decode cX3_joined 8 = .ok (.lshl, 1) := by decide +kernel
theorem dX3_joined_9 : decode cX3_joined 9 = .ok (.lor, 1) := by decide +kernel
theorem dX3_joined_10 : decode cX3_joined 10 = .ok (.lreturn, 1) := by decide +kernel
theorem dX3_partsOf_0 : decode cX3_partsOf 0 = .ok (.iload_n 0, 1) := by decide +kernel
theorem dX3_partsOf_1 : decode cX3_partsOf 1 = .ok (.tableswitch 35 3 6 #[31, 31, 33, 33], 31) := by decide +kernel
theorem dX3_partsOf_32 : decode cX3_partsOf 32 = .ok (.iconst 1, 1) := by decide +kernel
theorem dX3_partsOf_33 : decode cX3_partsOf 33 = .ok (.ireturn, 1) := by decide +kernel
theorem dX3_partsOf_34 : decode cX3_partsOf 34 = .ok (.iconst 2, 1) := by decide +kernel
theorem dX3_partsOf_35 : decode cX3_partsOf 35 = .ok (.ireturn, 1) := by decide +kernel
theorem dX3_partsOf_36 : decode cX3_partsOf 36 = .ok (.iconst 0, 1) := by decide +kernel
theorem dX3_partsOf_37 : decode cX3_partsOf 37 = .ok (.ireturn, 1) := by decide +kernel
theorem dX3_sizeOf_0 : decode cX3_sizeOf 0 = .ok (.iconst 0, 1) := by decide +kernel
theorem dX3_sizeOf_1 : decode cX3_sizeOf 1 = .ok (.istore_n 2, 1) := by decide +kernel
theorem dX3_sizeOf_2 : decode cX3_sizeOf 2 = .ok (.iload_n 2, 1) := by decide +kernel
theorem dX3_sizeOf_3 : decode cX3_sizeOf 3 = .ok (.bipush 12, 2) := by decide +kernel
theorem dX3_sizeOf_5 : decode cX3_sizeOf 5 = .ok (.if_icmp .ge 19, 3) := by decide +kernel
theorem dX3_sizeOf_8 : decode cX3_sizeOf 8 = .ok (.lload_n 0, 1) := by decide +kernel
theorem dX3_sizeOf_9 : decode cX3_sizeOf 9 = .ok (.iconst 4, 1) := by decide +kernel
theorem dX3_sizeOf_10 : decode cX3_sizeOf 10 = .ok (.iload_n 2, 1) := by decide +kernel
theorem dX3_sizeOf_11 : decode cX3_sizeOf 11 = .ok (.imul, 1) := by decide +kernel
theorem dX3_sizeOf_12 : decode cX3_sizeOf 12 = .ok (.lushr, 1) := by decide +kernel
theorem dX3_sizeOf_13 : decode cX3_sizeOf 13 = .ok (.lconst 0, 1) := by decide +kernel
theorem dX3_sizeOf_14 : decode cX3_sizeOf 14 = .ok (.lcmp, 1) := by decide +kernel
theorem dX3_sizeOf_15 : decode cX3_sizeOf 15 = .ok (.ifCond .eq 9, 3) := by decide +kernel
theorem dX3_sizeOf_18 : decode cX3_sizeOf 18 = .ok (.iinc 2 1, 3) := by decide +kernel
theorem dX3_sizeOf_21 : decode cX3_sizeOf 21 = .ok (.goto (-19), 3) := by decide +kernel
theorem dX3_sizeOf_24 : decode cX3_sizeOf 24 = .ok (.iload_n 2, 1) := by decide +kernel
theorem dX3_sizeOf_25 : decode cX3_sizeOf 25 = .ok (.ireturn, 1) := by decide +kernel
theorem dX4_checkUpTo_0 : decode cX4_checkUpTo 0 = .ok (.iconst 0, 1) := by decide +kernel
theorem dX4_checkUpTo_1 : decode cX4_checkUpTo 1 = .ok (.istore_n 2, 1) := by decide +kernel
theorem dX4_checkUpTo_2 : decode cX4_checkUpTo 2 = .ok (.iload_n 2, 1) := by decide +kernel
theorem dX4_checkUpTo_3 : decode cX4_checkUpTo 3 = .ok (.iload_n 1, 1) := by decide +kernel
theorem dX4_checkUpTo_4 : decode cX4_checkUpTo 4 = .ok (.if_icmp .gt 84, 3) := by decide +kernel
theorem dX4_checkUpTo_88 : decode cX4_checkUpTo 88 = .ok (.return_, 1) := by decide +kernel
theorem dX4_init_0 : decode cX4_init 0 = .ok (.aload_n 0, 1) := by decide +kernel
theorem dX4_init_1 : decode cX4_init 1 = .ok (.invokespecial 3, 3) := by decide +kernel
theorem dX4_init_4 : decode cX4_init 4 = .ok (.aload_n 0, 1) := by decide +kernel
theorem dX4_init_5 : decode cX4_init 5 = .ok (.bipush 24, 2) := by decide +kernel
theorem dX4_init_7 : decode cX4_init 7 = .ok (.newarray .int, 2) := by decide +kernel
theorem dX4_init_9 : decode cX4_init 9 = .ok (.putfield 9, 3) := by decide +kernel
theorem dX4_init_12 : decode cX4_init 12 = .ok (.aload_n 0, 1) := by decide +kernel
theorem dX4_init_13 : decode cX4_init 13 = .ok (.bipush 24, 2) := by decide +kernel
theorem dX4_init_15 : decode cX4_init 15 = .ok (.newarray .int, 2) := by decide +kernel
theorem dX4_init_17 : decode cX4_init 17 = .ok (.putfield 15, 3) := by decide +kernel
theorem dX4_init_20 : decode cX4_init 20 = .ok (.aload_n 0, 1) := by decide +kernel
theorem dX4_init_21 : decode cX4_init 21 = .ok (.bipush 24, 2) := by decide +kernel
theorem dX4_init_23 : decode cX4_init 23 = .ok (.newarray .int, 2) := by decide +kernel
theorem dX4_init_25 : decode cX4_init 25 = .ok (.putfield 18, 3) := by decide +kernel
theorem dX4_init_28 : decode cX4_init 28 = .ok (.aload_n 0, 1) := by decide +kernel
theorem dX4_init_29 : decode cX4_init 29 = .ok (.bipush 24, 2) := by decide +kernel
theorem dX4_init_31 : decode cX4_init 31 = .ok (.newarray .int, 2) := by decide +kernel
theorem dX4_init_33 : decode cX4_init 33 = .ok (.putfield 21, 3) := by decide +kernel
theorem dX4_init_36 : decode cX4_init 36 = .ok (.aload_n 0, 1) := by decide +kernel
theorem dX4_init_37 : decode cX4_init 37 = .ok (.bipush 24, 2) := by decide +kernel
theorem dX4_init_39 : decode cX4_init 39 = .ok (.newarray .int, 2) := by decide +kernel
theorem dX4_init_41 : decode cX4_init 41 = .ok (.putfield 24, 3) := by decide +kernel
theorem dX4_init_44 : decode cX4_init 44 = .ok (.aload_n 0, 1) := by decide +kernel
theorem dX4_init_45 : decode cX4_init 45 = .ok (.bipush 24, 2) := by decide +kernel
theorem dX4_init_47 : decode cX4_init 47 = .ok (.newarray .boolean, 2) := by decide +kernel
theorem dX4_init_49 : decode cX4_init 49 = .ok (.putfield 27, 3) := by decide +kernel
theorem dX4_init_52 : decode cX4_init 52 = .ok (.aload_n 0, 1) := by decide +kernel
theorem dX4_init_53 : decode cX4_init 53 = .ok (.aload_n 1, 1) := by decide +kernel
theorem dX4_init_54 : decode cX4_init 54 = .ok (.putfield 31, 3) := by decide +kernel
theorem dX4_init_57 : decode cX4_init 57 = .ok (.aload_n 0, 1) := by decide +kernel
theorem dX4_init_58 : decode cX4_init 58 = .ok (.aload_n 2, 1) := by decide +kernel
theorem dX4_init_59 : decode cX4_init 59 = .ok (.putfield 35, 3) := by decide +kernel
theorem dX4_init_62 : decode cX4_init 62 = .ok (.return_, 1) := by decide +kernel
theorem dX5_init_0 : decode cX5_init 0 = .ok (.aload_n 0, 1) := by decide +kernel
theorem dX5_init_1 : decode cX5_init 1 = .ok (.invokespecial 3, 3) := by decide +kernel
theorem dX5_init_4 : decode cX5_init 4 = .ok (.aload_n 0, 1) := by decide +kernel
theorem dX5_init_5 : decode cX5_init 5 = .ok (.bipush 14, 2) := by decide +kernel
theorem dX5_init_7 : decode cX5_init 7 = .ok (.anewarray 11, 3) := by decide +kernel
theorem dX5_init_10 : decode cX5_init 10 = .ok (.putfield 13, 3) := by decide +kernel
theorem dX5_init_13 : decode cX5_init 13 = .ok (.aload_n 0, 1) := by decide +kernel
theorem dX5_init_14 : decode cX5_init 14 = .ok (.bipush 14, 2) := by decide +kernel
theorem dX5_init_16 : decode cX5_init 16 = .ok (.anewarray 11, 3) := by decide +kernel
theorem dX5_init_19 : decode cX5_init 19 = .ok (.putfield 17, 3) := by decide +kernel
theorem dX5_init_22 : decode cX5_init 22 = .ok (.aload_n 0, 1) := by decide +kernel
theorem dX5_init_23 : decode cX5_init 23 = .ok (.aload_n 1, 1) := by decide +kernel
theorem dX5_init_24 : decode cX5_init 24 = .ok (.putfield 20, 3) := by decide +kernel
theorem dX5_init_27 : decode cX5_init 27 = .ok (.aload_n 0, 1) := by decide +kernel
theorem dX5_init_28 : decode cX5_init 28 = .ok (.aload_n 2, 1) := by decide +kernel
theorem dX5_init_29 : decode cX5_init 29 = .ok (.putfield 24, 3) := by decide +kernel
theorem dX5_init_32 : decode cX5_init 32 = .ok (.iconst 0, 1) := by decide +kernel
theorem dX5_init_33 : decode cX5_init 33 = .ok (.istore_n 3, 1) := by decide +kernel
theorem dX5_init_34 : decode cX5_init 34 = .ok (.iload_n 3, 1) := by decide +kernel
theorem dX5_init_35 : decode cX5_init 35 = .ok (.bipush 14, 2) := by decide +kernel
theorem dX5_init_37 : decode cX5_init 37 = .ok (.if_icmp .ge 35, 3) := by decide +kernel
theorem dX5_init_40 : decode cX5_init 40 = .ok (.aload_n 0, 1) := by decide +kernel
theorem dX5_init_41 : decode cX5_init 41 = .ok (.getfield 13, 3) := by decide +kernel
theorem dX5_init_44 : decode cX5_init 44 = .ok (.iload_n 3, 1) := by decide +kernel
theorem dX5_init_45 : decode cX5_init 45 = .ok (.new 11, 3) := by decide +kernel
theorem dX5_init_48 : decode cX5_init 48 = .ok (.dup, 1) := by decide +kernel
theorem dX5_init_49 : decode cX5_init 49 = .ok (.invokespecial 28, 3) := by decide +kernel
theorem dX5_init_52 : decode cX5_init 52 = .ok (.aastore, 1) := by decide +kernel
theorem dX5_init_53 : decode cX5_init 53 = .ok (.aload_n 0, 1) := by decide +kernel
theorem dX5_init_54 : decode cX5_init 54 = .ok (.getfield 17, 3) := by decide +kernel
theorem dX5_init_57 : decode cX5_init 57 = .ok (.iload_n 3, 1) := by decide +kernel
theorem dX5_init_58 : decode cX5_init 58 = .ok (.new 11, 3) := by decide +kernel
theorem dX5_init_61 : decode cX5_init 61 = .ok (.dup, 1) := by decide +kernel
theorem dX5_init_62 : decode cX5_init 62 = .ok (.invokespecial 28, 3) := by decide +kernel
theorem dX5_init_65 : decode cX5_init 65 = .ok (.aastore, 1) := by decide +kernel
theorem dX5_init_66 : decode cX5_init 66 = .ok (.iinc 3 1, 3) := by decide +kernel
theorem dX5_init_69 : decode cX5_init 69 = .ok (.goto (-35), 3) := by decide +kernel
theorem dX5_init_72 : decode cX5_init 72 = .ok (.return_, 1) := by decide +kernel
theorem dX6_init_0 : decode cX6_init 0 = .ok (.aload_n 0, 1) := by decide +kernel
theorem dX6_init_1 : decode cX6_init 1 = .ok (.invokespecial 3, 3) := by decide +kernel
theorem dX6_init_4 : decode cX6_init 4 = .ok (.aload_n 0, 1) := by decide +kernel
theorem dX6_init_5 : decode cX6_init 5 = .ok (.iconst 4, 1) := by decide +kernel
theorem dX6_init_6 : decode cX6_init 6 = .ok (.newarray .long, 2) := by decide +kernel
theorem dX6_init_8 : decode cX6_init 8 = .ok (.putfield 9, 3) := by decide +kernel
theorem dX6_init_11 : decode cX6_init 11 = .ok (.return_, 1) := by decide +kernel
theorem dX7_init_0 : decode cX7_init 0 = .ok (.aload_n 0, 1) := by decide +kernel
theorem dX7_init_1 : decode cX7_init 1 = .ok (.invokespecial 3, 3) := by decide +kernel
theorem dX7_init_4 : decode cX7_init 4 = .ok (.aload_n 0, 1) := by decide +kernel
theorem dX7_init_5 : decode cX7_init 5 = .ok (.bipush 14, 2) := by decide +kernel
theorem dX7_init_7 : decode cX7_init 7 = .ok (.newarray .int, 2) := by decide +kernel
theorem dX7_init_9 : decode cX7_init 9 = .ok (.putfield 11, 3) := by decide +kernel
theorem dX7_init_12 : decode cX7_init 12 = .ok (.return_, 1) := by decide +kernel
theorem dX8_copy_0 : decode cX8_copy 0 = .ok (.aload_n 1, 1) := by decide +kernel
theorem dX8_copy_1 : decode cX8_copy 1 = .ok (.getfield 9, 3) := by decide +kernel
theorem dX8_copy_4 : decode cX8_copy 4 = .ok (.iconst 0, 1) := by decide +kernel
theorem dX8_copy_5 : decode cX8_copy 5 = .ok (.aload_n 0, 1) := by decide +kernel
theorem dX8_copy_6 : decode cX8_copy 6 = .ok (.getfield 9, 3) := by decide +kernel
theorem dX8_copy_9 : decode cX8_copy 9 = .ok (.iconst 0, 1) := by decide +kernel
theorem dX8_copy_10 : decode cX8_copy 10 = .ok (.bipush 8, 2) := by decide +kernel
theorem dX8_copy_12 : decode cX8_copy 12 = .ok (.invokestatic 24, 3) := by decide +kernel
theorem dX8_copy_15 : decode cX8_copy 15 = .ok (.aload_n 1, 1) := by decide +kernel
theorem dX8_copy_16 : decode cX8_copy 16 = .ok (.getfield 15, 3) := by decide +kernel
theorem dX8_copy_19 : decode cX8_copy 19 = .ok (.iconst 0, 1) := by decide +kernel
theorem dX8_copy_20 : decode cX8_copy 20 = .ok (.aload_n 0, 1) := by decide +kernel
theorem dX8_copy_21 : decode cX8_copy 21 = .ok (.getfield 15, 3) := by decide +kernel
theorem dX8_copy_24 : decode cX8_copy 24 = .ok (.iconst 0, 1) := by decide +kernel
theorem dX8_copy_25 : decode cX8_copy 25 = .ok (.bipush 8, 2) := by decide +kernel
theorem dX8_copy_27 : decode cX8_copy 27 = .ok (.invokestatic 24, 3) := by decide +kernel
theorem dX8_copy_30 : decode cX8_copy 30 = .ok (.aload_n 1, 1) := by decide +kernel
theorem dX8_copy_31 : decode cX8_copy 31 = .ok (.getfield 18, 3) := by decide +kernel
theorem dX8_copy_34 : decode cX8_copy 34 = .ok (.iconst 0, 1) := by decide +kernel
theorem dX8_copy_35 : decode cX8_copy 35 = .ok (.aload_n 0, 1) := by decide +kernel
theorem dX8_copy_36 : decode cX8_copy 36 = .ok (.getfield 18, 3) := by decide +kernel
theorem dX8_copy_39 : decode cX8_copy 39 = .ok (.iconst 0, 1) := by decide +kernel
theorem dX8_copy_40 : decode cX8_copy 40 = .ok (.bipush 20, 2) := by decide +kernel
theorem dX8_copy_42 : decode cX8_copy 42 = .ok (.invokestatic 24, 3) := by decide +kernel
theorem dX8_copy_45 : decode cX8_copy 45 = .ok (.aload_n 1, 1) := by decide +kernel
theorem dX8_copy_46 : decode cX8_copy 46 = .ok (.getfield 21, 3) := by decide +kernel
theorem dX8_copy_49 : decode cX8_copy 49 = .ok (.iconst 0, 1) := by decide +kernel
theorem dX8_copy_50 : decode cX8_copy 50 = .ok (.aload_n 0, 1) := by decide +kernel
theorem dX8_copy_51 : decode cX8_copy 51 = .ok (.getfield 21, 3) := by decide +kernel
theorem dX8_copy_54 : decode cX8_copy 54 = .ok (.iconst 0, 1) := by decide +kernel
theorem dX8_copy_55 : decode cX8_copy 55 = .ok (.bipush 20, 2) := by decide +kernel
theorem dX8_copy_57 : decode cX8_copy 57 = .ok (.invokestatic 24, 3) := by decide +kernel
theorem dX8_copy_60 : decode cX8_copy 60 = .ok (.aload_n 0, 1) := by decide +kernel
theorem dX8_copy_61 : decode cX8_copy 61 = .ok (.aload_n 1, 1) := by decide +kernel
theorem dX8_copy_62 : decode cX8_copy 62 = .ok (.getfield 30, 3) := by decide +kernel
theorem dX8_copy_65 : decode cX8_copy 65 = .ok (.putfield 30, 3) := by decide +kernel
theorem dX8_copy_68 : decode cX8_copy 68 = .ok (.aload_n 0, 1) := by decide +kernel
theorem dX8_copy_69 : decode cX8_copy 69 = .ok (.aload_n 1, 1) := by decide +kernel
theorem dX8_copy_70 : decode cX8_copy 70 = .ok (.getfield 34, 3) := by decide +kernel
theorem dX8_copy_73 : decode cX8_copy 73 = .ok (.putfield 34, 3) := by decide +kernel
theorem dX8_copy_76 : decode cX8_copy 76 = .ok (.aload_n 0, 1) := by decide +kernel
theorem dX8_copy_77 : decode cX8_copy 77 = .ok (.aload_n 1, 1) := by decide +kernel
theorem dX8_copy_78 : decode cX8_copy 78 = .ok (.getfield 37, 3) := by decide +kernel
theorem dX8_copy_81 : decode cX8_copy 81 = .ok (.putfield 37, 3) := by decide +kernel
theorem dX8_copy_84 : decode cX8_copy 84 = .ok (.aload_n 0, 1) := by decide +kernel
theorem dX8_copy_85 : decode cX8_copy 85 = .ok (.aload_n 1, 1) := by decide +kernel
theorem dX8_copy_86 : decode cX8_copy 86 = .ok (.getfield 40, 3) := by decide +kernel
theorem dX8_copy_89 : decode cX8_copy 89 = .ok (.putfield 40, 3) := by decide +kernel
theorem dX8_copy_92 : decode cX8_copy 92 = .ok (.aload_n 0, 1) := by decide +kernel
theorem dX8_copy_93 : decode cX8_copy 93 = .ok (.aload_n 1, 1) := by decide +kernel
theorem dX8_copy_94 : decode cX8_copy 94 = .ok (.getfield 43, 3) := by decide +kernel
theorem dX8_copy_97 : decode cX8_copy 97 = .ok (.putfield 43, 3) := by decide +kernel
theorem dX8_copy_100 : decode cX8_copy 100 = .ok (.return_, 1) := by decide +kernel
theorem dX8_counted_0 : decode cX8_counted 0 = .ok (.iload_n 1, 1) := by decide +kernel
theorem dX8_counted_1 : decode cX8_counted 1 = .ok (.tableswitch 51 0 3 #[31, 36, 41, 46], 31) := by decide +kernel
theorem dX8_counted_32 : decode cX8_counted 32 = .ok (.aload_n 0, 1) := by decide +kernel
theorem dX8_counted_33 : decode cX8_counted 33 = .ok (.getfield 30, 3) := by decide +kernel
theorem dX8_counted_36 : decode cX8_counted 36 = .ok (.ireturn, 1) := by decide +kernel
theorem dX8_counted_37 : decode cX8_counted 37 = .ok (.aload_n 0, 1) := by decide +kernel
theorem dX8_counted_38 : decode cX8_counted 38 = .ok (.getfield 34, 3) := by decide +kernel
theorem dX8_counted_41 : decode cX8_counted 41 = .ok (.ireturn, 1) := by decide +kernel
theorem dX8_counted_42 : decode cX8_counted 42 = .ok (.aload_n 0, 1) := by decide +kernel
theorem dX8_counted_43 : decode cX8_counted 43 = .ok (.getfield 37, 3) := by decide +kernel
theorem dX8_counted_46 : decode cX8_counted 46 = .ok (.ireturn, 1) := by decide +kernel
theorem dX8_counted_47 : decode cX8_counted 47 = .ok (.aload_n 0, 1) := by decide +kernel
theorem dX8_counted_48 : decode cX8_counted 48 = .ok (.getfield 40, 3) := by decide +kernel
theorem dX8_counted_51 : decode cX8_counted 51 = .ok (.ireturn, 1) := by decide +kernel
theorem dX8_counted_52 : decode cX8_counted 52 = .ok (.aload_n 0, 1) := by decide +kernel
theorem dX8_counted_53 : decode cX8_counted 53 = .ok (.getfield 43, 3) := by decide +kernel
theorem dX8_counted_56 : decode cX8_counted 56 = .ok (.ifCond .eq 7, 3) := by decide +kernel
theorem dX8_counted_63 : decode cX8_counted 63 = .ok (.iconst 0, 1) := by decide +kernel
theorem dX8_counted_64 : decode cX8_counted 64 = .ok (.ireturn, 1) := by decide +kernel
theorem dX8_init_0 : decode cX8_init 0 = .ok (.aload_n 0, 1) := by decide +kernel
theorem dX8_init_1 : decode cX8_init 1 = .ok (.invokespecial 3, 3) := by decide +kernel
theorem dX8_init_4 : decode cX8_init 4 = .ok (.aload_n 0, 1) := by decide +kernel
theorem dX8_init_5 : decode cX8_init 5 = .ok (.bipush 8, 2) := by decide +kernel
theorem dX8_init_7 : decode cX8_init 7 = .ok (.newarray .long, 2) := by decide +kernel
theorem dX8_init_9 : decode cX8_init 9 = .ok (.putfield 9, 3) := by decide +kernel
theorem dX8_init_12 : decode cX8_init 12 = .ok (.aload_n 0, 1) := by decide +kernel
theorem dX8_init_13 : decode cX8_init 13 = .ok (.bipush 8, 2) := by decide +kernel
theorem dX8_init_15 : decode cX8_init 15 = .ok (.newarray .long, 2) := by decide +kernel
theorem dX8_init_17 : decode cX8_init 17 = .ok (.putfield 15, 3) := by decide +kernel
theorem dX8_init_20 : decode cX8_init 20 = .ok (.aload_n 0, 1) := by decide +kernel
theorem dX8_init_21 : decode cX8_init 21 = .ok (.bipush 20, 2) := by decide +kernel
theorem dX8_init_23 : decode cX8_init 23 = .ok (.newarray .long, 2) := by decide +kernel
theorem dX8_init_25 : decode cX8_init 25 = .ok (.putfield 18, 3) := by decide +kernel
theorem dX8_init_28 : decode cX8_init 28 = .ok (.aload_n 0, 1) := by decide +kernel
theorem dX8_init_29 : decode cX8_init 29 = .ok (.bipush 20, 2) := by decide +kernel
theorem dX8_init_31 : decode cX8_init 31 = .ok (.newarray .long, 2) := by decide +kernel
theorem dX8_init_33 : decode cX8_init 33 = .ok (.putfield 21, 3) := by decide +kernel
theorem dX8_init_36 : decode cX8_init 36 = .ok (.return_, 1) := by decide +kernel
theorem dX9_findOrAdd_0 : decode cX9_findOrAdd 0 = .ok (.iconst 0, 1) := by decide +kernel
theorem dX9_findOrAdd_1 : decode cX9_findOrAdd 1 = .ok (.istore_n 3, 1) := by decide +kernel
theorem dX9_findOrAdd_2 : decode cX9_findOrAdd 2 = .ok (.iload_n 3, 1) := by decide +kernel
theorem dX9_findOrAdd_3 : decode cX9_findOrAdd 3 = .ok (.aload_n 0, 1) := by decide +kernel
theorem dX9_findOrAdd_4 : decode cX9_findOrAdd 4 = .ok (.getfield 22, 3) := by decide +kernel
theorem dX9_findOrAdd_7 : decode cX9_findOrAdd 7 = .ok (.if_icmp .ge 22, 3) := by decide +kernel
theorem dX9_findOrAdd_29 : decode cX9_findOrAdd 29 = .ok (.aload_n 0, 1) := by decide +kernel
theorem dX9_findOrAdd_30 : decode cX9_findOrAdd 30 = .ok (.getfield 22, 3) := by decide +kernel
theorem dX9_findOrAdd_33 : decode cX9_findOrAdd 33 = .ok (.bipush 60, 2) := by decide +kernel
theorem dX9_findOrAdd_35 : decode cX9_findOrAdd 35 = .ok (.if_icmp .lt 5, 3) := by decide +kernel
theorem dX9_findOrAdd_40 : decode cX9_findOrAdd 40 = .ok (.aload_n 0, 1) := by decide +kernel
theorem dX9_findOrAdd_41 : decode cX9_findOrAdd 41 = .ok (.getfield 9, 3) := by decide +kernel
theorem dX9_findOrAdd_44 : decode cX9_findOrAdd 44 = .ok (.aload_n 0, 1) := by decide +kernel
theorem dX9_findOrAdd_45 : decode cX9_findOrAdd 45 = .ok (.getfield 22, 3) := by decide +kernel
theorem dX9_findOrAdd_48 : decode cX9_findOrAdd 48 = .ok (.lload_n 1, 1) := by decide +kernel
theorem dX9_findOrAdd_49 : decode cX9_findOrAdd 49 = .ok (.lastore, 1) := by decide +kernel
theorem dX9_findOrAdd_50 : decode cX9_findOrAdd 50 = .ok (.aload_n 0, 1) := by decide +kernel
theorem dX9_findOrAdd_51 : decode cX9_findOrAdd 51 = .ok (.dup, 1) := by decide +kernel
theorem dX9_findOrAdd_52 : decode cX9_findOrAdd 52 = .ok (.getfield 22, 3) := by decide +kernel
theorem dX9_findOrAdd_55 : decode cX9_findOrAdd 55 = .ok (.iconst 1, 1) := by decide +kernel
theorem dX9_findOrAdd_56 : decode cX9_findOrAdd 56 = .ok (.iadd, 1) := by decide +kernel
theorem dX9_findOrAdd_57 : decode cX9_findOrAdd 57 = .ok (.putfield 22, 3) := by decide +kernel
theorem dX9_findOrAdd_60 : decode cX9_findOrAdd 60 = .ok (.aload_n 0, 1) := by decide +kernel
theorem dX9_findOrAdd_61 : decode cX9_findOrAdd 61 = .ok (.getfield 22, 3) := by decide +kernel
theorem dX9_findOrAdd_64 : decode cX9_findOrAdd 64 = .ok (.iconst 1, 1) := by decide +kernel
theorem dX9_findOrAdd_65 : decode cX9_findOrAdd 65 = .ok (.isub, 1) := by decide +kernel
theorem dX9_findOrAdd_66 : decode cX9_findOrAdd 66 = .ok (.ireturn, 1) := by decide +kernel
theorem dX9_forgetNormals_0 : decode cX9_forgetNormals 0 = .ok (.aload_n 0, 1) := by decide +kernel
theorem dX9_forgetNormals_1 : decode cX9_forgetNormals 1 = .ok (.getfield 15, 3) := by decide +kernel
theorem dX9_forgetNormals_4 : decode cX9_forgetNormals 4 = .ok (.lconst 0, 1) := by decide +kernel
theorem dX9_forgetNormals_5 : decode cX9_forgetNormals 5 = .ok (.invokestatic 26, 3) := by decide +kernel
theorem dX9_forgetNormals_8 : decode cX9_forgetNormals 8 = .ok (.return_, 1) := by decide +kernel
theorem dX9_init_0 : decode cX9_init 0 = .ok (.aload_n 0, 1) := by decide +kernel
theorem dX9_init_1 : decode cX9_init 1 = .ok (.invokespecial 3, 3) := by decide +kernel
theorem dX9_init_4 : decode cX9_init 4 = .ok (.aload_n 0, 1) := by decide +kernel
theorem dX9_init_5 : decode cX9_init 5 = .ok (.bipush 60, 2) := by decide +kernel
theorem dX9_init_7 : decode cX9_init 7 = .ok (.newarray .long, 2) := by decide +kernel
theorem dX9_init_9 : decode cX9_init 9 = .ok (.putfield 9, 3) := by decide +kernel
theorem dX9_init_12 : decode cX9_init 12 = .ok (.aload_n 0, 1) := by decide +kernel
theorem dX9_init_13 : decode cX9_init 13 = .ok (.bipush 60, 2) := by decide +kernel
theorem dX9_init_15 : decode cX9_init 15 = .ok (.newarray .long, 2) := by decide +kernel
theorem dX9_init_17 : decode cX9_init 17 = .ok (.putfield 15, 3) := by decide +kernel
theorem dX9_init_20 : decode cX9_init 20 = .ok (.aload_n 0, 1) := by decide +kernel
theorem dX9_init_21 : decode cX9_init 21 = .ok (.bipush 60, 2) := by decide +kernel
theorem dX9_init_23 : decode cX9_init 23 = .ok (.newarray .int, 2) := by decide +kernel
theorem dX9_init_25 : decode cX9_init 25 = .ok (.putfield 18, 3) := by decide +kernel
theorem dX9_init_28 : decode cX9_init 28 = .ok (.return_, 1) := by decide +kernel
