theorem dT_init0_0 : decode prog_7_method_1_code 0 = .ok (.aload_n 0, 1) := by decide +kernel
theorem dT_init0_1 : decode prog_7_method_1_code 1 = .ok (.invokespecial 3, 3) := by decide +kernel
theorem dT_init0_4 : decode prog_7_method_1_code 4 = .ok (.aload_n 0, 1) := by decide +kernel
theorem dT_init0_5 : decode prog_7_method_1_code 5 = .ok (.bipush 31, 2) := by decide +kernel
theorem dT_init0_7 : decode prog_7_method_1_code 7 = .ok (.newarray .int, 2) := by decide +kernel
theorem dT_init0_9 : decode prog_7_method_1_code 9 = .ok (.putfield 9, 3) := by decide +kernel
theorem dT_init0_12 : decode prog_7_method_1_code 12 = .ok (.aload_n 0, 1) := by decide +kernel
theorem dT_init0_13 : decode prog_7_method_1_code 13 = .ok (.bipush 31, 2) := by decide +kernel
theorem dT_init0_15 : decode prog_7_method_1_code 15 = .ok (.newarray .int, 2) := by decide +kernel
theorem dT_init0_17 : decode prog_7_method_1_code 17 = .ok (.putfield 15, 3) := by decide +kernel
theorem dT_init0_20 : decode prog_7_method_1_code 20 = .ok (.aload_n 0, 1) := by decide +kernel
theorem dT_init0_21 : decode prog_7_method_1_code 21 = .ok (.bipush 31, 2) := by decide +kernel
theorem dT_init0_23 : decode prog_7_method_1_code 23 = .ok (.newarray .int, 2) := by decide +kernel
theorem dT_init0_25 : decode prog_7_method_1_code 25 = .ok (.putfield 18, 3) := by decide +kernel
theorem dT_init0_28 : decode prog_7_method_1_code 28 = .ok (.aload_n 0, 1) := by decide +kernel
theorem dT_init0_29 : decode prog_7_method_1_code 29 = .ok (.getfield 9, 3) := by decide +kernel
theorem dT_init0_32 : decode prog_7_method_1_code 32 = .ok (.iconst (-1), 1) := by decide +kernel
theorem dT_init0_33 : decode prog_7_method_1_code 33 = .ok (.invokestatic 21, 3) := by decide +kernel
theorem dT_init0_36 : decode prog_7_method_1_code 36 = .ok (.aload_n 0, 1) := by decide +kernel
theorem dT_init0_37 : decode prog_7_method_1_code 37 = .ok (.getfield 15, 3) := by decide +kernel
theorem dT_init0_40 : decode prog_7_method_1_code 40 = .ok (.iconst (-1), 1) := by decide +kernel
theorem dT_init0_41 : decode prog_7_method_1_code 41 = .ok (.invokestatic 21, 3) := by decide +kernel
theorem dT_init0_44 : decode prog_7_method_1_code 44 = .ok (.return_, 1) := by decide +kernel
theorem dT_give_0 : decode prog_7_method_7_code 0 = .ok (.aload_n 0, 1) := by decide +kernel
theorem dT_give_1 : decode prog_7_method_7_code 1 = .ok (.iload_n 1, 1) := by decide +kernel
theorem dT_give_2 : decode prog_7_method_7_code 2 = .ok (.invokevirtual 35, 3) := by decide +kernel
theorem dT_give_5 : decode prog_7_method_7_code 5 = .ok (.ifCond .eq 24, 3) := by decide +kernel
theorem dT_give_8 : decode prog_7_method_7_code 8 = .ok (.aload_n 0, 1) := by decide +kernel
theorem dT_give_9 : decode prog_7_method_7_code 9 = .ok (.getfield 9, 3) := by decide +kernel
theorem dT_give_12 : decode prog_7_method_7_code 12 = .ok (.iload_n 1, 1) := by decide +kernel
theorem dT_give_13 : decode prog_7_method_7_code 13 = .ok (.iload_n 2, 1) := by decide +kernel
theorem dT_give_14 : decode prog_7_method_7_code 14 = .ok (.iastore, 1) := by decide +kernel
theorem dT_give_15 : decode prog_7_method_7_code 15 = .ok (.aload_n 0, 1) := by decide +kernel
theorem dT_give_16 : decode prog_7_method_7_code 16 = .ok (.getfield 15, 3) := by decide +kernel
theorem dT_give_19 : decode prog_7_method_7_code 19 = .ok (.iload_n 1, 1) := by decide +kernel
theorem dT_give_20 : decode prog_7_method_7_code 20 = .ok (.iload_n 3, 1) := by decide +kernel
theorem dT_give_21 : decode prog_7_method_7_code 21 = .ok (.iastore, 1) := by decide +kernel
theorem dT_give_22 : decode prog_7_method_7_code 22 = .ok (.aload_n 0, 1) := by decide +kernel
theorem dT_give_23 : decode prog_7_method_7_code 23 = .ok (.getfield 18, 3) := by decide +kernel
theorem dT_give_26 : decode prog_7_method_7_code 26 = .ok (.iload_n 1, 1) := by decide +kernel
theorem dT_give_27 : decode prog_7_method_7_code 27 = .ok (.iconst 0, 1) := by decide +kernel
theorem dT_give_28 : decode prog_7_method_7_code 28 = .ok (.iastore, 1) := by decide +kernel
theorem dT_give_29 : decode prog_7_method_7_code 29 = .ok (.return_, 1) := by decide +kernel
theorem dT_isThere_0 : decode prog_7_method_3_code 0 = .ok (.iload_n 1, 1) := by decide +kernel
theorem dT_isThere_1 : decode prog_7_method_3_code 1 = .ok (.ifCond .lt 19, 3) := by decide +kernel
theorem dT_isThere_4 : decode prog_7_method_3_code 4 = .ok (.iload_n 1, 1) := by decide +kernel
theorem dT_isThere_5 : decode prog_7_method_3_code 5 = .ok (.iconst 2, 1) := by decide +kernel
theorem dT_isThere_6 : decode prog_7_method_3_code 6 = .ok (.aload_n 0, 1) := by decide +kernel
theorem dT_isThere_7 : decode prog_7_method_3_code 7 = .ok (.getfield 27, 3) := by decide +kernel
theorem dT_isThere_10 : decode prog_7_method_3_code 10 = .ok (.ishl, 1) := by decide +kernel
theorem dT_isThere_11 : decode prog_7_method_3_code 11 = .ok (.iconst 1, 1) := by decide +kernel
theorem dT_isThere_12 : decode prog_7_method_3_code 12 = .ok (.isub, 1) := by decide +kernel
theorem dT_isThere_13 : decode prog_7_method_3_code 13 = .ok (.if_icmp .ge 7, 3) := by decide +kernel
theorem dT_isThere_16 : decode prog_7_method_3_code 16 = .ok (.iconst 1, 1) := by decide +kernel
theorem dT_isThere_17 : decode prog_7_method_3_code 17 = .ok (.goto 4, 3) := by decide +kernel
theorem dT_isThere_20 : decode prog_7_method_3_code 20 = .ok (.iconst 0, 1) := by decide +kernel
theorem dT_isThere_21 : decode prog_7_method_3_code 21 = .ok (.ireturn, 1) := by decide +kernel
theorem dT_keyOf_0 : decode prog_7_method_4_code 0 = .ok (.aload_n 0, 1) := by decide +kernel
theorem dT_keyOf_1 : decode prog_7_method_4_code 1 = .ok (.iload_n 1, 1) := by decide +kernel
theorem dT_keyOf_2 : decode prog_7_method_4_code 2 = .ok (.invokevirtual 35, 3) := by decide +kernel
theorem dT_keyOf_5 : decode prog_7_method_4_code 5 = .ok (.ifCond .eq 12, 3) := by decide +kernel
theorem dT_keyOf_8 : decode prog_7_method_4_code 8 = .ok (.aload_n 0, 1) := by decide +kernel
theorem dT_keyOf_9 : decode prog_7_method_4_code 9 = .ok (.getfield 9, 3) := by decide +kernel
theorem dT_keyOf_12 : decode prog_7_method_4_code 12 = .ok (.iload_n 1, 1) := by decide +kernel
theorem dT_keyOf_13 : decode prog_7_method_4_code 13 = .ok (.iaload, 1) := by decide +kernel
theorem dT_keyOf_14 : decode prog_7_method_4_code 14 = .ok (.goto 4, 3) := by decide +kernel
theorem dT_keyOf_17 : decode prog_7_method_4_code 17 = .ok (.iconst (-1), 1) := by decide +kernel
theorem dT_keyOf_18 : decode prog_7_method_4_code 18 = .ok (.ireturn, 1) := by decide +kernel
theorem dT_unmergedAt_0 : decode prog_7_method_6_code 0 = .ok (.aload_n 0, 1) := by decide +kernel
theorem dT_unmergedAt_1 : decode prog_7_method_6_code 1 = .ok (.iload_n 1, 1) := by decide +kernel
theorem dT_unmergedAt_2 : decode prog_7_method_6_code 2 = .ok (.invokevirtual 35, 3) := by decide +kernel
theorem dT_unmergedAt_5 : decode prog_7_method_6_code 5 = .ok (.ifCond .eq 12, 3) := by decide +kernel
theorem dT_unmergedAt_8 : decode prog_7_method_6_code 8 = .ok (.aload_n 0, 1) := by decide +kernel
theorem dT_unmergedAt_9 : decode prog_7_method_6_code 9 = .ok (.getfield 18, 3) := by decide +kernel
theorem dT_unmergedAt_12 : decode prog_7_method_6_code 12 = .ok (.iload_n 1, 1) := by decide +kernel
theorem dT_unmergedAt_13 : decode prog_7_method_6_code 13 = .ok (.iaload, 1) := by decide +kernel
theorem dT_unmergedAt_14 : decode prog_7_method_6_code 14 = .ok (.goto 4, 3) := by decide +kernel
theorem dT_unmergedAt_17 : decode prog_7_method_6_code 17 = .ok (.iconst 0, 1) := by decide +kernel
theorem dT_unmergedAt_18 : decode prog_7_method_6_code 18 = .ok (.ireturn, 1) := by decide +kernel
theorem dT_bornAt_0 : decode prog_7_method_5_code 0 = .ok (.aload_n 0, 1) := by decide +kernel
theorem dT_bornAt_1 : decode prog_7_method_5_code 1 = .ok (.iload_n 1, 1) := by decide +kernel
theorem dT_bornAt_2 : decode prog_7_method_5_code 2 = .ok (.invokevirtual 35, 3) := by decide +kernel
theorem dT_bornAt_5 : decode prog_7_method_5_code 5 = .ok (.ifCond .eq 12, 3) := by decide +kernel
theorem dT_bornAt_8 : decode prog_7_method_5_code 8 = .ok (.aload_n 0, 1) := by decide +kernel
theorem dT_bornAt_9 : decode prog_7_method_5_code 9 = .ok (.getfield 15, 3) := by decide +kernel
theorem dT_bornAt_12 : decode prog_7_method_5_code 12 = .ok (.iload_n 1, 1) := by decide +kernel
theorem dT_bornAt_13 : decode prog_7_method_5_code 13 = .ok (.iaload, 1) := by decide +kernel
theorem dT_bornAt_14 : decode prog_7_method_5_code 14 = .ok (.goto 4, 3) := by decide +kernel
theorem dT_bornAt_17 : decode prog_7_method_5_code 17 = .ok (.iconst (-1), 1) := by decide +kernel
theorem dT_bornAt_18 : decode prog_7_method_5_code 18 = .ok (.ireturn, 1) := by decide +kernel
theorem dT_resolution_0 : decode prog_7_method_14_code 0 = .ok (.aload_n 0, 1) := by decide +kernel
theorem dT_resolution_1 : decode prog_7_method_14_code 1 = .ok (.iload_n 1, 1) := by decide +kernel
theorem dT_resolution_2 : decode prog_7_method_14_code 2 = .ok (.invokevirtual 35, 3) := by decide +kernel
theorem dT_resolution_5 : decode prog_7_method_14_code 5 = .ok (.ifCond .ne 5, 3) := by decide +kernel
theorem dT_resolution_8 : decode prog_7_method_14_code 8 = .ok (.iconst 0, 1) := by decide +kernel
theorem dT_resolution_9 : decode prog_7_method_14_code 9 = .ok (.ireturn, 1) := by decide +kernel
theorem dT_resolution_10 : decode prog_7_method_14_code 10 = .ok (.aload_n 0, 1) := by decide +kernel
theorem dT_resolution_11 : decode prog_7_method_14_code 11 = .ok (.getfield 9, 3) := by decide +kernel
theorem dT_resolution_14 : decode prog_7_method_14_code 14 = .ok (.iload_n 1, 1) := by decide +kernel
theorem dT_resolution_15 : decode prog_7_method_14_code 15 = .ok (.iaload, 1) := by decide +kernel
theorem dT_resolution_16 : decode prog_7_method_14_code 16 = .ok (.iconst (-1), 1) := by decide +kernel
theorem dT_resolution_17 : decode prog_7_method_14_code 17 = .ok (.if_icmp .eq 18, 3) := by decide +kernel
theorem dT_resolution_20 : decode prog_7_method_14_code 20 = .ok (.iload_n 1, 1) := by decide +kernel
theorem dT_resolution_21 : decode prog_7_method_14_code 21 = .ok (.invokestatic 55, 3) := by decide +kernel
theorem dT_resolution_24 : decode prog_7_method_14_code 24 = .ok (.aload_n 0, 1) := by decide +kernel
theorem dT_resolution_25 : decode prog_7_method_14_code 25 = .ok (.getfield 18, 3) := by decide +kernel
theorem dT_resolution_28 : decode prog_7_method_14_code 28 = .ok (.iload_n 1, 1) := by decide +kernel
theorem dT_resolution_29 : decode prog_7_method_14_code 29 = .ok (.iaload, 1) := by decide +kernel
theorem dT_resolution_30 : decode prog_7_method_14_code 30 = .ok (.invokestatic 64, 3) := by decide +kernel
theorem dT_resolution_33 : decode prog_7_method_14_code 33 = .ok (.ior, 1) := by decide +kernel
theorem dT_resolution_34 : decode prog_7_method_14_code 34 = .ok (.ireturn, 1) := by decide +kernel
theorem dT_resolution_35 : decode prog_7_method_14_code 35 = .ok (.iload_n 2, 1) := by decide +kernel
theorem dT_resolution_36 : decode prog_7_method_14_code 36 = .ok (.ifCond .gt 5, 3) := by decide +kernel
theorem dT_resolution_39 : decode prog_7_method_14_code 39 = .ok (.iconst 0, 1) := by decide +kernel
theorem dT_resolution_40 : decode prog_7_method_14_code 40 = .ok (.ireturn, 1) := by decide +kernel
theorem dT_resolution_41 : decode prog_7_method_14_code 41 = .ok (.iconst 1, 1) := by decide +kernel
theorem dT_resolution_42 : decode prog_7_method_14_code 42 = .ok (.iload_n 2, 1) := by decide +kernel
theorem dT_resolution_43 : decode prog_7_method_14_code 43 = .ok (.iconst 1, 1) := by decide +kernel
theorem dT_resolution_44 : decode prog_7_method_14_code 44 = .ok (.isub, 1) := by decide +kernel
theorem dT_resolution_45 : decode prog_7_method_14_code 45 = .ok (.ishl, 1) := by decide +kernel
theorem dT_resolution_46 : decode prog_7_method_14_code 46 = .ok (.istore_n 3, 1) := by decide +kernel
theorem dT_resolution_47 : decode prog_7_method_14_code 47 = .ok (.aload_n 0, 1) := by decide +kernel
theorem dT_resolution_48 : decode prog_7_method_14_code 48 = .ok (.iload_n 1, 1) := by decide +kernel
theorem dT_resolution_49 : decode prog_7_method_14_code 49 = .ok (.iload_n 3, 1) := by decide +kernel
theorem dT_resolution_50 : decode prog_7_method_14_code 50 = .ok (.isub, 1) := by decide +kernel
theorem dT_resolution_51 : decode prog_7_method_14_code 51 = .ok (.iload_n 2, 1) := by decide +kernel
theorem dT_resolution_52 : decode prog_7_method_14_code 52 = .ok (.iconst 1, 1) := by decide +kernel
theorem dT_resolution_53 : decode prog_7_method_14_code 53 = .ok (.isub, 1) := by decide +kernel
theorem dT_resolution_54 : decode prog_7_method_14_code 54 = .ok (.invokevirtual 67, 3) := by decide +kernel
theorem dT_resolution_57 : decode prog_7_method_14_code 57 = .ok (.aload_n 0, 1) := by decide +kernel
theorem dT_resolution_58 : decode prog_7_method_14_code 58 = .ok (.iload_n 1, 1) := by decide +kernel
theorem dT_resolution_59 : decode prog_7_method_14_code 59 = .ok (.iload_n 3, 1) := by decide +kernel
theorem dT_resolution_60 : decode prog_7_method_14_code 60 = .ok (.iadd, 1) := by decide +kernel
theorem dT_resolution_61 : decode prog_7_method_14_code 61 = .ok (.iload_n 2, 1) := by decide +kernel
theorem dT_resolution_62 : decode prog_7_method_14_code 62 = .ok (.iconst 1, 1) := by decide +kernel
theorem dT_resolution_63 : decode prog_7_method_14_code 63 = .ok (.isub, 1) := by decide +kernel
theorem dT_resolution_64 : decode prog_7_method_14_code 64 = .ok (.invokevirtual 67, 3) := by decide +kernel
theorem dT_resolution_67 : decode prog_7_method_14_code 67 = .ok (.ior, 1) := by decide +kernel
theorem dT_resolution_68 : decode prog_7_method_14_code 68 = .ok (.ireturn, 1) := by decide +kernel
theorem dT_init1_0 : decode prog_7_method_2_code 0 = .ok (.aload_n 0, 1) := by decide +kernel
theorem dT_init1_1 : decode prog_7_method_2_code 1 = .ok (.invokespecial 3, 3) := by decide +kernel
theorem dT_init1_4 : decode prog_7_method_2_code 4 = .ok (.aload_n 0, 1) := by decide +kernel
theorem dT_init1_5 : decode prog_7_method_2_code 5 = .ok (.aload_n 1, 1) := by decide +kernel
theorem dT_init1_6 : decode prog_7_method_2_code 6 = .ok (.getfield 27, 3) := by decide +kernel
theorem dT_init1_9 : decode prog_7_method_2_code 9 = .ok (.putfield 27, 3) := by decide +kernel
theorem dT_init1_12 : decode prog_7_method_2_code 12 = .ok (.aload_n 0, 1) := by decide +kernel
theorem dT_init1_13 : decode prog_7_method_2_code 13 = .ok (.aload_n 1, 1) := by decide +kernel
theorem dT_init1_14 : decode prog_7_method_2_code 14 = .ok (.getfield 9, 3) := by decide +kernel
theorem dT_init1_17 : decode prog_7_method_2_code 17 = .ok (.bipush 31, 2) := by decide +kernel
theorem dT_init1_19 : decode prog_7_method_2_code 19 = .ok (.invokestatic 31, 3) := by decide +kernel
theorem dT_init1_22 : decode prog_7_method_2_code 22 = .ok (.putfield 9, 3) := by decide +kernel
theorem dT_init1_25 : decode prog_7_method_2_code 25 = .ok (.aload_n 0, 1) := by decide +kernel
theorem dT_init1_26 : decode prog_7_method_2_code 26 = .ok (.aload_n 1, 1) := by decide +kernel
theorem dT_init1_27 : decode prog_7_method_2_code 27 = .ok (.getfield 15, 3) := by decide +kernel
theorem dT_init1_30 : decode prog_7_method_2_code 30 = .ok (.bipush 31, 2) := by decide +kernel
theorem dT_init1_32 : decode prog_7_method_2_code 32 = .ok (.invokestatic 31, 3) := by decide +kernel
theorem dT_init1_35 : decode prog_7_method_2_code 35 = .ok (.putfield 15, 3) := by decide +kernel
theorem dT_init1_38 : decode prog_7_method_2_code 38 = .ok (.aload_n 0, 1) := by decide +kernel
theorem dT_init1_39 : decode prog_7_method_2_code 39 = .ok (.aload_n 1, 1) := by decide +kernel
theorem dT_init1_40 : decode prog_7_method_2_code 40 = .ok (.getfield 18, 3) := by decide +kernel
theorem dT_init1_43 : decode prog_7_method_2_code 43 = .ok (.bipush 31, 2) := by decide +kernel
theorem dT_init1_45 : decode prog_7_method_2_code 45 = .ok (.invokestatic 31, 3) := by decide +kernel
theorem dT_init1_48 : decode prog_7_method_2_code 48 = .ok (.putfield 18, 3) := by decide +kernel
theorem dT_init1_51 : decode prog_7_method_2_code 51 = .ok (.return_, 1) := by decide +kernel
theorem dT_blankLeafAndPath_0 : decode prog_7_method_9_code 0 = .ok (.iconst 0, 1) := by decide +kernel
theorem dT_blankLeafAndPath_1 : decode prog_7_method_9_code 1 = .ok (.istore_n 2, 1) := by decide +kernel
theorem dT_blankLeafAndPath_2 : decode prog_7_method_9_code 2 = .ok (.iload_n 2, 1) := by decide +kernel
theorem dT_blankLeafAndPath_3 : decode prog_7_method_9_code 3 = .ok (.aload_n 0, 1) := by decide +kernel
theorem dT_blankLeafAndPath_4 : decode prog_7_method_9_code 4 = .ok (.getfield 27, 3) := by decide +kernel
theorem dT_blankLeafAndPath_7 : decode prog_7_method_9_code 7 = .ok (.if_icmp .gt 18, 3) := by decide +kernel
theorem dT_blankLeafAndPath_10 : decode prog_7_method_9_code 10 = .ok (.aload_n 0, 1) := by decide +kernel
theorem dT_blankLeafAndPath_11 : decode prog_7_method_9_code 11 = .ok (.iload_n 1, 1) := by decide +kernel
theorem dT_blankLeafAndPath_12 : decode prog_7_method_9_code 12 = .ok (.iload_n 2, 1) := by decide +kernel
theorem dT_blankLeafAndPath_13 : decode prog_7_method_9_code 13 = .ok (.invokestatic 43, 3) := by decide +kernel
theorem dT_blankLeafAndPath_16 : decode prog_7_method_9_code 16 = .ok (.invokevirtual 47, 3) := by decide +kernel
theorem dT_blankLeafAndPath_19 : decode prog_7_method_9_code 19 = .ok (.iinc 2 1, 3) := by decide +kernel
theorem dT_blankLeafAndPath_22 : decode prog_7_method_9_code 22 = .ok (.goto (-20), 3) := by decide +kernel
theorem dT_blankLeafAndPath_25 : decode prog_7_method_9_code 25 = .ok (.return_, 1) := by decide +kernel
theorem dT_blank_0 : decode prog_7_method_8_code 0 = .ok (.aload_n 0, 1) := by decide +kernel
theorem dT_blank_1 : decode prog_7_method_8_code 1 = .ok (.iload_n 1, 1) := by decide +kernel
theorem dT_blank_2 : decode prog_7_method_8_code 2 = .ok (.iconst (-1), 1) := by decide +kernel
theorem dT_blank_3 : decode prog_7_method_8_code 3 = .ok (.iconst (-1), 1) := by decide +kernel
theorem dT_blank_4 : decode prog_7_method_8_code 4 = .ok (.invokevirtual 39, 3) := by decide +kernel
theorem dT_blank_7 : decode prog_7_method_8_code 7 = .ok (.return_, 1) := by decide +kernel
theorem dT_shrink_0 : decode prog_7_method_11_code 0 = .ok (.aload_n 0, 1) := by decide +kernel
theorem dT_shrink_1 : decode prog_7_method_11_code 1 = .ok (.getfield 27, 3) := by decide +kernel
theorem dT_shrink_4 : decode prog_7_method_11_code 4 = .ok (.ifCond .le 64, 3) := by decide +kernel
theorem dT_shrink_7 : decode prog_7_method_11_code 7 = .ok (.aload_n 0, 1) := by decide +kernel
theorem dT_shrink_8 : decode prog_7_method_11_code 8 = .ok (.iconst 1, 1) := by decide +kernel
theorem dT_shrink_9 : decode prog_7_method_11_code 9 = .ok (.aload_n 0, 1) := by decide +kernel
theorem dT_shrink_10 : decode prog_7_method_11_code 10 = .ok (.getfield 27, 3) := by decide +kernel
theorem dT_shrink_13 : decode prog_7_method_11_code 13 = .ok (.iconst 1, 1) := by decide +kernel
theorem dT_shrink_14 : decode prog_7_method_11_code 14 = .ok (.isub, 1) := by decide +kernel
theorem dT_shrink_15 : decode prog_7_method_11_code 15 = .ok (.ishl, 1) := by decide +kernel
theorem dT_shrink_16 : decode prog_7_method_11_code 16 = .ok (.invokevirtual 58, 3) := by decide +kernel
theorem dT_shrink_19 : decode prog_7_method_11_code 19 = .ok (.iconst (-1), 1) := by decide +kernel
theorem dT_shrink_20 : decode prog_7_method_11_code 20 = .ok (.if_icmp .ne 48, 3) := by decide +kernel
theorem dT_shrink_23 : decode prog_7_method_11_code 23 = .ok (.iconst 1, 1) := by decide +kernel
theorem dT_shrink_24 : decode prog_7_method_11_code 24 = .ok (.aload_n 0, 1) := by decide +kernel
theorem dT_shrink_25 : decode prog_7_method_11_code 25 = .ok (.getfield 27, 3) := by decide +kernel
theorem dT_shrink_28 : decode prog_7_method_11_code 28 = .ok (.ishl, 1) := by decide +kernel
theorem dT_shrink_29 : decode prog_7_method_11_code 29 = .ok (.iconst 1, 1) := by decide +kernel
theorem dT_shrink_30 : decode prog_7_method_11_code 30 = .ok (.isub, 1) := by decide +kernel
theorem dT_shrink_31 : decode prog_7_method_11_code 31 = .ok (.istore_n 1, 1) := by decide +kernel
theorem dT_shrink_32 : decode prog_7_method_11_code 32 = .ok (.iload_n 1, 1) := by decide +kernel
theorem dT_shrink_33 : decode prog_7_method_11_code 33 = .ok (.iconst 2, 1) := by decide +kernel
theorem dT_shrink_34 : decode prog_7_method_11_code 34 = .ok (.aload_n 0, 1) := by decide +kernel
theorem dT_shrink_35 : decode prog_7_method_11_code 35 = .ok (.getfield 27, 3) := by decide +kernel
theorem dT_shrink_38 : decode prog_7_method_11_code 38 = .ok (.ishl, 1) := by decide +kernel
theorem dT_shrink_39 : decode prog_7_method_11_code 39 = .ok (.iconst 1, 1) := by decide +kernel
theorem dT_shrink_40 : decode prog_7_method_11_code 40 = .ok (.isub, 1) := by decide +kernel
theorem dT_shrink_41 : decode prog_7_method_11_code 41 = .ok (.if_icmp .ge 14, 3) := by decide +kernel
theorem dT_shrink_44 : decode prog_7_method_11_code 44 = .ok (.aload_n 0, 1) := by decide +kernel
theorem dT_shrink_45 : decode prog_7_method_11_code 45 = .ok (.iload_n 1, 1) := by decide +kernel
theorem dT_shrink_46 : decode prog_7_method_11_code 46 = .ok (.invokevirtual 47, 3) := by decide +kernel
theorem dT_shrink_49 : decode prog_7_method_11_code 49 = .ok (.iinc 1 1, 3) := by decide +kernel
theorem dT_shrink_52 : decode prog_7_method_11_code 52 = .ok (.goto (-20), 3) := by decide +kernel
theorem dT_shrink_55 : decode prog_7_method_11_code 55 = .ok (.aload_n 0, 1) := by decide +kernel
theorem dT_shrink_56 : decode prog_7_method_11_code 56 = .ok (.dup, 1) := by decide +kernel
theorem dT_shrink_57 : decode prog_7_method_11_code 57 = .ok (.getfield 27, 3) := by decide +kernel
theorem dT_shrink_60 : decode prog_7_method_11_code 60 = .ok (.iconst 1, 1) := by decide +kernel
theorem dT_shrink_61 : decode prog_7_method_11_code 61 = .ok (.isub, 1) := by decide +kernel
theorem dT_shrink_62 : decode prog_7_method_11_code 62 = .ok (.putfield 27, 3) := by decide +kernel
theorem dT_shrink_65 : decode prog_7_method_11_code 65 = .ok (.goto (-65), 3) := by decide +kernel
theorem dT_shrink_68 : decode prog_7_method_11_code 68 = .ok (.return_, 1) := by decide +kernel
theorem dT_firstLeafWithKey_0 : decode prog_7_method_12_code 0 = .ok (.iload_n 1, 1) := by decide +kernel
theorem dT_firstLeafWithKey_1 : decode prog_7_method_12_code 1 = .ok (.istore_n 2, 1) := by decide +kernel
theorem dT_firstLeafWithKey_2 : decode prog_7_method_12_code 2 = .ok (.iload_n 2, 1) := by decide +kernel
theorem dT_firstLeafWithKey_3 : decode prog_7_method_12_code 3 = .ok (.iconst 1, 1) := by decide +kernel
theorem dT_firstLeafWithKey_4 : decode prog_7_method_12_code 4 = .ok (.aload_n 0, 1) := by decide +kernel
theorem dT_firstLeafWithKey_5 : decode prog_7_method_12_code 5 = .ok (.getfield 27, 3) := by decide +kernel
theorem dT_firstLeafWithKey_8 : decode prog_7_method_12_code 8 = .ok (.ishl, 1) := by decide +kernel
theorem dT_firstLeafWithKey_9 : decode prog_7_method_12_code 9 = .ok (.if_icmp .ge 23, 3) := by decide +kernel
theorem dT_firstLeafWithKey_12 : decode prog_7_method_12_code 12 = .ok (.aload_n 0, 1) := by decide +kernel
theorem dT_firstLeafWithKey_13 : decode prog_7_method_12_code 13 = .ok (.iload_n 2, 1) := by decide +kernel
theorem dT_firstLeafWithKey_14 : decode prog_7_method_12_code 14 = .ok (.invokestatic 61, 3) := by decide +kernel
theorem dT_firstLeafWithKey_17 : decode prog_7_method_12_code 17 = .ok (.invokevirtual 51, 3) := by decide +kernel
theorem dT_firstLeafWithKey_20 : decode prog_7_method_12_code 20 = .ok (.iconst (-1), 1) := by decide +kernel
theorem dT_firstLeafWithKey_21 : decode prog_7_method_12_code 21 = .ok (.if_icmp .eq 5, 3) := by decide +kernel
theorem dT_firstLeafWithKey_24 : decode prog_7_method_12_code 24 = .ok (.iload_n 2, 1) := by decide +kernel
theorem dT_firstLeafWithKey_25 : decode prog_7_method_12_code 25 = .ok (.ireturn, 1) := by decide +kernel
theorem dT_firstLeafWithKey_26 : decode prog_7_method_12_code 26 = .ok (.iinc 2 1, 3) := by decide +kernel
theorem dT_firstLeafWithKey_29 : decode prog_7_method_12_code 29 = .ok (.goto (-27), 3) := by decide +kernel
theorem dT_firstLeafWithKey_32 : decode prog_7_method_12_code 32 = .ok (.iconst (-1), 1) := by decide +kernel
theorem dT_firstLeafWithKey_33 : decode prog_7_method_12_code 33 = .ok (.ireturn, 1) := by decide +kernel
theorem dT_makeRoom_0 : decode prog_7_method_13_code 0 = .ok (.iconst 0, 1) := by decide +kernel
theorem dT_makeRoom_1 : decode prog_7_method_13_code 1 = .ok (.istore_n 1, 1) := by decide +kernel
theorem dT_makeRoom_2 : decode prog_7_method_13_code 2 = .ok (.iload_n 1, 1) := by decide +kernel
theorem dT_makeRoom_3 : decode prog_7_method_13_code 3 = .ok (.iconst 1, 1) := by decide +kernel
theorem dT_makeRoom_4 : decode prog_7_method_13_code 4 = .ok (.aload_n 0, 1) := by decide +kernel
theorem dT_makeRoom_5 : decode prog_7_method_13_code 5 = .ok (.getfield 27, 3) := by decide +kernel
theorem dT_makeRoom_8 : decode prog_7_method_13_code 8 = .ok (.ishl, 1) := by decide +kernel
theorem dT_makeRoom_9 : decode prog_7_method_13_code 9 = .ok (.if_icmp .ge 23, 3) := by decide +kernel
theorem dT_makeRoom_12 : decode prog_7_method_13_code 12 = .ok (.aload_n 0, 1) := by decide +kernel
theorem dT_makeRoom_13 : decode prog_7_method_13_code 13 = .ok (.iload_n 1, 1) := by decide +kernel
theorem dT_makeRoom_14 : decode prog_7_method_13_code 14 = .ok (.invokestatic 61, 3) := by decide +kernel
theorem dT_makeRoom_17 : decode prog_7_method_13_code 17 = .ok (.invokevirtual 51, 3) := by decide +kernel
theorem dT_makeRoom_20 : decode prog_7_method_13_code 20 = .ok (.iconst (-1), 1) := by decide +kernel
theorem dT_makeRoom_21 : decode prog_7_method_13_code 21 = .ok (.if_icmp .ne 5, 3) := by decide +kernel
theorem dT_makeRoom_24 : decode prog_7_method_13_code 24 = .ok (.iload_n 1, 1) := by decide +kernel
theorem dT_makeRoom_25 : decode prog_7_method_13_code 25 = .ok (.ireturn, 1) := by decide +kernel
theorem dT_makeRoom_26 : decode prog_7_method_13_code 26 = .ok (.iinc 1 1, 3) := by decide +kernel
theorem dT_makeRoom_29 : decode prog_7_method_13_code 29 = .ok (.goto (-27), 3) := by decide +kernel
theorem dT_makeRoom_32 : decode prog_7_method_13_code 32 = .ok (.aload_n 0, 1) := by decide +kernel
theorem dT_makeRoom_33 : decode prog_7_method_13_code 33 = .ok (.getfield 27, 3) := by decide +kernel
theorem dT_makeRoom_36 : decode prog_7_method_13_code 36 = .ok (.iconst 4, 1) := by decide +kernel
theorem dT_makeRoom_37 : decode prog_7_method_13_code 37 = .ok (.if_icmp .lt 5, 3) := by decide +kernel
theorem dT_makeRoom_40 : decode prog_7_method_13_code 40 = .ok (.iconst (-1), 1) := by decide +kernel
theorem dT_makeRoom_41 : decode prog_7_method_13_code 41 = .ok (.ireturn, 1) := by decide +kernel
theorem dT_makeRoom_42 : decode prog_7_method_13_code 42 = .ok (.aload_n 0, 1) := by decide +kernel
theorem dT_makeRoom_43 : decode prog_7_method_13_code 43 = .ok (.dup, 1) := by decide +kernel
theorem dT_makeRoom_44 : decode prog_7_method_13_code 44 = .ok (.getfield 27, 3) := by decide +kernel
theorem dT_makeRoom_47 : decode prog_7_method_13_code 47 = .ok (.iconst 1, 1) := by decide +kernel
theorem dT_makeRoom_48 : decode prog_7_method_13_code 48 = .ok (.iadd, 1) := by decide +kernel
theorem dT_makeRoom_49 : decode prog_7_method_13_code 49 = .ok (.putfield 27, 3) := by decide +kernel
theorem dT_makeRoom_52 : decode prog_7_method_13_code 52 = .ok (.iconst 1, 1) := by decide +kernel
theorem dT_makeRoom_53 : decode prog_7_method_13_code 53 = .ok (.aload_n 0, 1) := by decide +kernel
theorem dT_makeRoom_54 : decode prog_7_method_13_code 54 = .ok (.getfield 27, 3) := by decide +kernel
theorem dT_makeRoom_57 : decode prog_7_method_13_code 57 = .ok (.iconst 1, 1) := by decide +kernel
theorem dT_makeRoom_58 : decode prog_7_method_13_code 58 = .ok (.isub, 1) := by decide +kernel
theorem dT_makeRoom_59 : decode prog_7_method_13_code 59 = .ok (.ishl, 1) := by decide +kernel
theorem dT_makeRoom_60 : decode prog_7_method_13_code 60 = .ok (.ireturn, 1) := by decide +kernel
theorem dT_markUnmerged_0 : decode prog_7_method_10_code 0 = .ok (.iconst 1, 1) := by decide +kernel
theorem dT_markUnmerged_1 : decode prog_7_method_10_code 1 = .ok (.istore_n 2, 1) := by decide +kernel
theorem dT_markUnmerged_2 : decode prog_7_method_10_code 2 = .ok (.iload_n 2, 1) := by decide +kernel
theorem dT_markUnmerged_3 : decode prog_7_method_10_code 3 = .ok (.aload_n 0, 1) := by decide +kernel
theorem dT_markUnmerged_4 : decode prog_7_method_10_code 4 = .ok (.getfield 27, 3) := by decide +kernel
theorem dT_markUnmerged_7 : decode prog_7_method_10_code 7 = .ok (.if_icmp .gt 37, 3) := by decide +kernel
theorem dT_markUnmerged_10 : decode prog_7_method_10_code 10 = .ok (.iload_n 1, 1) := by decide +kernel
theorem dT_markUnmerged_11 : decode prog_7_method_10_code 11 = .ok (.iload_n 2, 1) := by decide +kernel
theorem dT_markUnmerged_12 : decode prog_7_method_10_code 12 = .ok (.invokestatic 43, 3) := by decide +kernel
theorem dT_markUnmerged_15 : decode prog_7_method_10_code 15 = .ok (.istore_n 3, 1) := by decide +kernel
theorem dT_markUnmerged_16 : decode prog_7_method_10_code 16 = .ok (.aload_n 0, 1) := by decide +kernel
theorem dT_markUnmerged_17 : decode prog_7_method_10_code 17 = .ok (.iload_n 3, 1) := by decide +kernel
theorem dT_markUnmerged_18 : decode prog_7_method_10_code 18 = .ok (.invokevirtual 51, 3) := by decide +kernel
theorem dT_markUnmerged_21 : decode prog_7_method_10_code 21 = .ok (.iconst (-1), 1) := by decide +kernel
theorem dT_markUnmerged_22 : decode prog_7_method_10_code 22 = .ok (.if_icmp .eq 16, 3) := by decide +kernel
theorem dT_markUnmerged_25 : decode prog_7_method_10_code 25 = .ok (.aload_n 0, 1) := by decide +kernel
theorem dT_markUnmerged_26 : decode prog_7_method_10_code 26 = .ok (.getfield 18, 3) := by decide +kernel
theorem dT_markUnmerged_29 : decode prog_7_method_10_code 29 = .ok (.iload_n 3, 1) := by decide +kernel
theorem dT_markUnmerged_30 : decode prog_7_method_10_code 30 = .ok (.dup2, 1) := by decide +kernel
theorem dT_markUnmerged_31 : decode prog_7_method_10_code 31 = .ok (.iaload, 1) := by decide +kernel
theorem dT_markUnmerged_32 : decode prog_7_method_10_code 32 = .ok (.iload_n 1, 1) := by decide +kernel
theorem dT_markUnmerged_33 : decode prog_7_method_10_code 33 = .ok (.invokestatic 55, 3) := by decide +kernel
theorem dT_markUnmerged_36 : decode prog_7_method_10_code 36 = .ok (.ior, 1) := by decide +kernel
theorem dT_markUnmerged_37 : decode prog_7_method_10_code 37 = .ok (.iastore, 1) := by decide +kernel
theorem dT_markUnmerged_38 : decode prog_7_method_10_code 38 = .ok (.iinc 2 1, 3) := by decide +kernel
theorem dT_markUnmerged_41 : decode prog_7_method_10_code 41 = .ok (.goto (-39), 3) := by decide +kernel
theorem dT_markUnmerged_44 : decode prog_7_method_10_code 44 = .ok (.return_, 1) := by decide +kernel
