theorem dB_init_0 : decode prog_4_method_1_code 0 = .ok (.aload_n 0, 1) := by decide +kernel
theorem dB_init_1 : decode prog_4_method_1_code 1 = .ok (.invokespecial 3, 3) := by decide +kernel
theorem dB_init_4 : decode prog_4_method_1_code 4 = .ok (.aload_n 0, 1) := by decide +kernel
theorem dB_init_5 : decode prog_4_method_1_code 5 = .ok (.iconst (-1), 1) := by decide +kernel
theorem dB_init_6 : decode prog_4_method_1_code 6 = .ok (.putfield 9, 3) := by decide +kernel
theorem dB_init_9 : decode prog_4_method_1_code 9 = .ok (.aload_n 0, 1) := by decide +kernel
theorem dB_init_10 : decode prog_4_method_1_code 10 = .ok (.iconst (-1), 1) := by decide +kernel
theorem dB_init_11 : decode prog_4_method_1_code 11 = .ok (.putfield 15, 3) := by decide +kernel
theorem dB_init_14 : decode prog_4_method_1_code 14 = .ok (.aload_n 0, 1) := by decide +kernel
theorem dB_init_15 : decode prog_4_method_1_code 15 = .ok (.iconst (-1), 1) := by decide +kernel
theorem dB_init_16 : decode prog_4_method_1_code 16 = .ok (.putfield 18, 3) := by decide +kernel
theorem dB_init_19 : decode prog_4_method_1_code 19 = .ok (.aload_n 0, 1) := by decide +kernel
theorem dB_init_20 : decode prog_4_method_1_code 20 = .ok (.iconst 5, 1) := by decide +kernel
theorem dB_init_21 : decode prog_4_method_1_code 21 = .ok (.newarray .int, 2) := by decide +kernel
theorem dB_init_23 : decode prog_4_method_1_code 23 = .ok (.putfield 21, 3) := by decide +kernel
theorem dB_init_26 : decode prog_4_method_1_code 26 = .ok (.aload_n 0, 1) := by decide +kernel
theorem dB_init_27 : decode prog_4_method_1_code 27 = .ok (.bipush 20, 2) := by decide +kernel
theorem dB_init_29 : decode prog_4_method_1_code 29 = .ok (.newarray .int, 2) := by decide +kernel
theorem dB_init_31 : decode prog_4_method_1_code 31 = .ok (.putfield 25, 3) := by decide +kernel
theorem dB_init_34 : decode prog_4_method_1_code 34 = .ok (.aload_n 0, 1) := by decide +kernel
theorem dB_init_35 : decode prog_4_method_1_code 35 = .ok (.getfield 21, 3) := by decide +kernel
theorem dB_init_38 : decode prog_4_method_1_code 38 = .ok (.iconst (-1), 1) := by decide +kernel
theorem dB_init_39 : decode prog_4_method_1_code 39 = .ok (.invokestatic 28, 3) := by decide +kernel
theorem dB_init_42 : decode prog_4_method_1_code 42 = .ok (.return_, 1) := by decide +kernel
theorem dB_enter_0 : decode prog_4_method_3_code 0 = .ok (.aload_n 0, 1) := by decide +kernel
theorem dB_enter_1 : decode prog_4_method_3_code 1 = .ok (.invokevirtual 37, 3) := by decide +kernel
theorem dB_enter_4 : decode prog_4_method_3_code 4 = .ok (.aload_n 0, 1) := by decide +kernel
theorem dB_enter_5 : decode prog_4_method_3_code 5 = .ok (.aload_n 1, 1) := by decide +kernel
theorem dB_enter_6 : decode prog_4_method_3_code 6 = .ok (.getfield 40, 3) := by decide +kernel
theorem dB_enter_9 : decode prog_4_method_3_code 9 = .ok (.putfield 9, 3) := by decide +kernel
theorem dB_enter_12 : decode prog_4_method_3_code 12 = .ok (.aload_n 0, 1) := by decide +kernel
theorem dB_enter_13 : decode prog_4_method_3_code 13 = .ok (.iload_n 2, 1) := by decide +kernel
theorem dB_enter_14 : decode prog_4_method_3_code 14 = .ok (.putfield 15, 3) := by decide +kernel
theorem dB_enter_17 : decode prog_4_method_3_code 17 = .ok (.aload_n 0, 1) := by decide +kernel
theorem dB_enter_18 : decode prog_4_method_3_code 18 = .ok (.aload_n 1, 1) := by decide +kernel
theorem dB_enter_19 : decode prog_4_method_3_code 19 = .ok (.getfield 45, 3) := by decide +kernel
theorem dB_enter_22 : decode prog_4_method_3_code 22 = .ok (.putfield 18, 3) := by decide +kernel
theorem dB_enter_25 : decode prog_4_method_3_code 25 = .ok (.aload_n 0, 1) := by decide +kernel
theorem dB_enter_26 : decode prog_4_method_3_code 26 = .ok (.getfield 21, 3) := by decide +kernel
theorem dB_enter_29 : decode prog_4_method_3_code 29 = .ok (.iconst 0, 1) := by decide +kernel
theorem dB_enter_30 : decode prog_4_method_3_code 30 = .ok (.aload_n 1, 1) := by decide +kernel
theorem dB_enter_31 : decode prog_4_method_3_code 31 = .ok (.getfield 46, 3) := by decide +kernel
theorem dB_enter_34 : decode prog_4_method_3_code 34 = .ok (.iload_n 2, 1) := by decide +kernel
theorem dB_enter_35 : decode prog_4_method_3_code 35 = .ok (.invokestatic 50, 3) := by decide +kernel
theorem dB_enter_38 : decode prog_4_method_3_code 38 = .ok (.invokevirtual 54, 3) := by decide +kernel
theorem dB_enter_41 : decode prog_4_method_3_code 41 = .ok (.iastore, 1) := by decide +kernel
theorem dB_enter_42 : decode prog_4_method_3_code 42 = .ok (.return_, 1) := by decide +kernel
theorem dB_leave_0 : decode prog_4_method_4_code 0 = .ok (.aload_n 0, 1) := by decide +kernel
theorem dB_leave_1 : decode prog_4_method_4_code 1 = .ok (.iconst (-1), 1) := by decide +kernel
theorem dB_leave_2 : decode prog_4_method_4_code 2 = .ok (.putfield 9, 3) := by decide +kernel
theorem dB_leave_5 : decode prog_4_method_4_code 5 = .ok (.aload_n 0, 1) := by decide +kernel
theorem dB_leave_6 : decode prog_4_method_4_code 6 = .ok (.iconst (-1), 1) := by decide +kernel
theorem dB_leave_7 : decode prog_4_method_4_code 7 = .ok (.putfield 15, 3) := by decide +kernel
theorem dB_leave_10 : decode prog_4_method_4_code 10 = .ok (.aload_n 0, 1) := by decide +kernel
theorem dB_leave_11 : decode prog_4_method_4_code 11 = .ok (.iconst (-1), 1) := by decide +kernel
theorem dB_leave_12 : decode prog_4_method_4_code 12 = .ok (.putfield 18, 3) := by decide +kernel
theorem dB_leave_15 : decode prog_4_method_4_code 15 = .ok (.aload_n 0, 1) := by decide +kernel
theorem dB_leave_16 : decode prog_4_method_4_code 16 = .ok (.iconst 0, 1) := by decide +kernel
theorem dB_leave_17 : decode prog_4_method_4_code 17 = .ok (.putfield 34, 3) := by decide +kernel
theorem dB_leave_20 : decode prog_4_method_4_code 20 = .ok (.aload_n 0, 1) := by decide +kernel
theorem dB_leave_21 : decode prog_4_method_4_code 21 = .ok (.getfield 21, 3) := by decide +kernel
theorem dB_leave_24 : decode prog_4_method_4_code 24 = .ok (.iconst (-1), 1) := by decide +kernel
theorem dB_leave_25 : decode prog_4_method_4_code 25 = .ok (.invokestatic 28, 3) := by decide +kernel
theorem dB_leave_28 : decode prog_4_method_4_code 28 = .ok (.return_, 1) := by decide +kernel
theorem dB_gatherInto_0 : decode prog_4_method_10_code 0 = .ok (.iconst 0, 1) := by decide +kernel
theorem dB_gatherInto_1 : decode prog_4_method_10_code 1 = .ok (.istore_n 2, 1) := by decide +kernel
theorem dB_gatherInto_2 : decode prog_4_method_10_code 2 = .ok (.aload_n 0, 1) := by decide +kernel
theorem dB_gatherInto_3 : decode prog_4_method_10_code 3 = .ok (.getfield 18, 3) := by decide +kernel
theorem dB_gatherInto_6 : decode prog_4_method_10_code 6 = .ok (.iconst (-1), 1) := by decide +kernel
theorem dB_gatherInto_7 : decode prog_4_method_10_code 7 = .ok (.if_icmp .eq 13, 3) := by decide +kernel
theorem dB_gatherInto_10 : decode prog_4_method_10_code 10 = .ok (.aload_n 1, 1) := by decide +kernel
theorem dB_gatherInto_11 : decode prog_4_method_10_code 11 = .ok (.iload_n 2, 1) := by decide +kernel
theorem dB_gatherInto_12 : decode prog_4_method_10_code 12 = .ok (.aload_n 0, 1) := by decide +kernel
theorem dB_gatherInto_13 : decode prog_4_method_10_code 13 = .ok (.getfield 18, 3) := by decide +kernel
theorem dB_gatherInto_16 : decode prog_4_method_10_code 16 = .ok (.iastore, 1) := by decide +kernel
theorem dB_gatherInto_17 : decode prog_4_method_10_code 17 = .ok (.iinc 2 1, 3) := by decide +kernel
theorem dB_gatherInto_20 : decode prog_4_method_10_code 20 = .ok (.iconst 0, 1) := by decide +kernel
theorem dB_gatherInto_21 : decode prog_4_method_10_code 21 = .ok (.istore_n 3, 1) := by decide +kernel
theorem dB_gatherInto_22 : decode prog_4_method_10_code 22 = .ok (.iload_n 3, 1) := by decide +kernel
theorem dB_gatherInto_23 : decode prog_4_method_10_code 23 = .ok (.iconst 4, 1) := by decide +kernel
theorem dB_gatherInto_24 : decode prog_4_method_10_code 24 = .ok (.if_icmp .gt 31, 3) := by decide +kernel
theorem dB_gatherInto_27 : decode prog_4_method_10_code 27 = .ok (.aload_n 0, 1) := by decide +kernel
theorem dB_gatherInto_28 : decode prog_4_method_10_code 28 = .ok (.getfield 21, 3) := by decide +kernel
theorem dB_gatherInto_31 : decode prog_4_method_10_code 31 = .ok (.iload_n 3, 1) := by decide +kernel
theorem dB_gatherInto_32 : decode prog_4_method_10_code 32 = .ok (.iaload, 1) := by decide +kernel
theorem dB_gatherInto_33 : decode prog_4_method_10_code 33 = .ok (.iconst (-1), 1) := by decide +kernel
theorem dB_gatherInto_34 : decode prog_4_method_10_code 34 = .ok (.if_icmp .eq 15, 3) := by decide +kernel
theorem dB_gatherInto_37 : decode prog_4_method_10_code 37 = .ok (.aload_n 1, 1) := by decide +kernel
theorem dB_gatherInto_38 : decode prog_4_method_10_code 38 = .ok (.iload_n 2, 1) := by decide +kernel
theorem dB_gatherInto_39 : decode prog_4_method_10_code 39 = .ok (.aload_n 0, 1) := by decide +kernel
theorem dB_gatherInto_40 : decode prog_4_method_10_code 40 = .ok (.getfield 21, 3) := by decide +kernel
theorem dB_gatherInto_43 : decode prog_4_method_10_code 43 = .ok (.iload_n 3, 1) := by decide +kernel
theorem dB_gatherInto_44 : decode prog_4_method_10_code 44 = .ok (.iaload, 1) := by decide +kernel
theorem dB_gatherInto_45 : decode prog_4_method_10_code 45 = .ok (.iastore, 1) := by decide +kernel
theorem dB_gatherInto_46 : decode prog_4_method_10_code 46 = .ok (.iinc 2 1, 3) := by decide +kernel
theorem dB_gatherInto_49 : decode prog_4_method_10_code 49 = .ok (.iinc 3 1, 3) := by decide +kernel
theorem dB_gatherInto_52 : decode prog_4_method_10_code 52 = .ok (.goto (-30), 3) := by decide +kernel
theorem dB_gatherInto_55 : decode prog_4_method_10_code 55 = .ok (.iconst 0, 1) := by decide +kernel
theorem dB_gatherInto_56 : decode prog_4_method_10_code 56 = .ok (.istore_n 3, 1) := by decide +kernel
theorem dB_gatherInto_57 : decode prog_4_method_10_code 57 = .ok (.iload_n 3, 1) := by decide +kernel
theorem dB_gatherInto_58 : decode prog_4_method_10_code 58 = .ok (.aload_n 0, 1) := by decide +kernel
theorem dB_gatherInto_59 : decode prog_4_method_10_code 59 = .ok (.getfield 34, 3) := by decide +kernel
theorem dB_gatherInto_62 : decode prog_4_method_10_code 62 = .ok (.if_icmp .ge 21, 3) := by decide +kernel
theorem dB_gatherInto_65 : decode prog_4_method_10_code 65 = .ok (.aload_n 1, 1) := by decide +kernel
theorem dB_gatherInto_66 : decode prog_4_method_10_code 66 = .ok (.iload_n 2, 1) := by decide +kernel
theorem dB_gatherInto_67 : decode prog_4_method_10_code 67 = .ok (.aload_n 0, 1) := by decide +kernel
theorem dB_gatherInto_68 : decode prog_4_method_10_code 68 = .ok (.getfield 25, 3) := by decide +kernel
theorem dB_gatherInto_71 : decode prog_4_method_10_code 71 = .ok (.iload_n 3, 1) := by decide +kernel
theorem dB_gatherInto_72 : decode prog_4_method_10_code 72 = .ok (.iaload, 1) := by decide +kernel
theorem dB_gatherInto_73 : decode prog_4_method_10_code 73 = .ok (.iastore, 1) := by decide +kernel
theorem dB_gatherInto_74 : decode prog_4_method_10_code 74 = .ok (.iinc 2 1, 3) := by decide +kernel
theorem dB_gatherInto_77 : decode prog_4_method_10_code 77 = .ok (.iinc 3 1, 3) := by decide +kernel
theorem dB_gatherInto_80 : decode prog_4_method_10_code 80 = .ok (.goto (-23), 3) := by decide +kernel
theorem dB_gatherInto_83 : decode prog_4_method_10_code 83 = .ok (.iload_n 2, 1) := by decide +kernel
theorem dB_gatherInto_84 : decode prog_4_method_10_code 84 = .ok (.ireturn, 1) := by decide +kernel
theorem dB_keepUpdate_0 : decode prog_4_method_2_code 0 = .ok (.aload_n 0, 1) := by decide +kernel
theorem dB_keepUpdate_1 : decode prog_4_method_2_code 1 = .ok (.getfield 34, 3) := by decide +kernel
theorem dB_keepUpdate_4 : decode prog_4_method_2_code 4 = .ok (.bipush 20, 2) := by decide +kernel
theorem dB_keepUpdate_6 : decode prog_4_method_2_code 6 = .ok (.if_icmp .ge 23, 3) := by decide +kernel
theorem dB_keepUpdate_9 : decode prog_4_method_2_code 9 = .ok (.aload_n 0, 1) := by decide +kernel
theorem dB_keepUpdate_10 : decode prog_4_method_2_code 10 = .ok (.getfield 25, 3) := by decide +kernel
theorem dB_keepUpdate_13 : decode prog_4_method_2_code 13 = .ok (.aload_n 0, 1) := by decide +kernel
theorem dB_keepUpdate_14 : decode prog_4_method_2_code 14 = .ok (.getfield 34, 3) := by decide +kernel
theorem dB_keepUpdate_17 : decode prog_4_method_2_code 17 = .ok (.iload_n 1, 1) := by decide +kernel
theorem dB_keepUpdate_18 : decode prog_4_method_2_code 18 = .ok (.iastore, 1) := by decide +kernel
theorem dB_keepUpdate_19 : decode prog_4_method_2_code 19 = .ok (.aload_n 0, 1) := by decide +kernel
theorem dB_keepUpdate_20 : decode prog_4_method_2_code 20 = .ok (.dup, 1) := by decide +kernel
theorem dB_keepUpdate_21 : decode prog_4_method_2_code 21 = .ok (.getfield 34, 3) := by decide +kernel
theorem dB_keepUpdate_24 : decode prog_4_method_2_code 24 = .ok (.iconst 1, 1) := by decide +kernel
theorem dB_keepUpdate_25 : decode prog_4_method_2_code 25 = .ok (.iadd, 1) := by decide +kernel
theorem dB_keepUpdate_26 : decode prog_4_method_2_code 26 = .ok (.putfield 34, 3) := by decide +kernel
theorem dB_keepUpdate_29 : decode prog_4_method_2_code 29 = .ok (.return_, 1) := by decide +kernel
theorem dB_moveByCommit_0 : decode prog_4_method_5_code 0 = .ok (.aload_n 0, 1) := by decide +kernel
theorem dB_moveByCommit_1 : decode prog_4_method_5_code 1 = .ok (.aload_n 1, 1) := by decide +kernel
theorem dB_moveByCommit_2 : decode prog_4_method_5_code 2 = .ok (.getfield 40, 3) := by decide +kernel
theorem dB_moveByCommit_5 : decode prog_4_method_5_code 5 = .ok (.putfield 9, 3) := by decide +kernel
theorem dB_moveByCommit_8 : decode prog_4_method_5_code 8 = .ok (.aload_n 0, 1) := by decide +kernel
theorem dB_moveByCommit_9 : decode prog_4_method_5_code 9 = .ok (.aload_n 0, 1) := by decide +kernel
theorem dB_moveByCommit_10 : decode prog_4_method_5_code 10 = .ok (.getfield 18, 3) := by decide +kernel
theorem dB_moveByCommit_13 : decode prog_4_method_5_code 13 = .ok (.iconst (-1), 1) := by decide +kernel
theorem dB_moveByCommit_14 : decode prog_4_method_5_code 14 = .ok (.if_icmp .ne 7, 3) := by decide +kernel
theorem dB_moveByCommit_17 : decode prog_4_method_5_code 17 = .ok (.iconst (-1), 1) := by decide +kernel
theorem dB_moveByCommit_18 : decode prog_4_method_5_code 18 = .ok (.goto 7, 3) := by decide +kernel
theorem dB_moveByCommit_21 : decode prog_4_method_5_code 21 = .ok (.aload_n 1, 1) := by decide +kernel
theorem dB_moveByCommit_22 : decode prog_4_method_5_code 22 = .ok (.getfield 45, 3) := by decide +kernel
theorem dB_moveByCommit_25 : decode prog_4_method_5_code 25 = .ok (.putfield 18, 3) := by decide +kernel
theorem dB_moveByCommit_28 : decode prog_4_method_5_code 28 = .ok (.aload_n 0, 1) := by decide +kernel
theorem dB_moveByCommit_29 : decode prog_4_method_5_code 29 = .ok (.iconst 0, 1) := by decide +kernel
theorem dB_moveByCommit_30 : decode prog_4_method_5_code 30 = .ok (.putfield 34, 3) := by decide +kernel
theorem dB_moveByCommit_33 : decode prog_4_method_5_code 33 = .ok (.aload_n 0, 1) := by decide +kernel
theorem dB_moveByCommit_34 : decode prog_4_method_5_code 34 = .ok (.aload_n 1, 1) := by decide +kernel
theorem dB_moveByCommit_35 : decode prog_4_method_5_code 35 = .ok (.getfield 46, 3) := by decide +kernel
theorem dB_moveByCommit_38 : decode prog_4_method_5_code 38 = .ok (.invokevirtual 59, 3) := by decide +kernel
theorem dB_moveByCommit_41 : decode prog_4_method_5_code 41 = .ok (.aload_n 0, 1) := by decide +kernel
theorem dB_moveByCommit_42 : decode prog_4_method_5_code 42 = .ok (.getfield 21, 3) := by decide +kernel
theorem dB_moveByCommit_45 : decode prog_4_method_5_code 45 = .ok (.iconst 0, 1) := by decide +kernel
theorem dB_moveByCommit_46 : decode prog_4_method_5_code 46 = .ok (.aload_n 1, 1) := by decide +kernel
theorem dB_moveByCommit_47 : decode prog_4_method_5_code 47 = .ok (.getfield 46, 3) := by decide +kernel
theorem dB_moveByCommit_50 : decode prog_4_method_5_code 50 = .ok (.aload_n 0, 1) := by decide +kernel
theorem dB_moveByCommit_51 : decode prog_4_method_5_code 51 = .ok (.getfield 15, 3) := by decide +kernel
theorem dB_moveByCommit_54 : decode prog_4_method_5_code 54 = .ok (.invokestatic 50, 3) := by decide +kernel
theorem dB_moveByCommit_57 : decode prog_4_method_5_code 57 = .ok (.invokevirtual 54, 3) := by decide +kernel
theorem dB_moveByCommit_60 : decode prog_4_method_5_code 60 = .ok (.iastore, 1) := by decide +kernel
theorem dB_moveByCommit_61 : decode prog_4_method_5_code 61 = .ok (.aload_n 0, 1) := by decide +kernel
theorem dB_moveByCommit_62 : decode prog_4_method_5_code 62 = .ok (.aload_n 1, 1) := by decide +kernel
theorem dB_moveByCommit_63 : decode prog_4_method_5_code 63 = .ok (.aload_n 1, 1) := by decide +kernel
theorem dB_moveByCommit_64 : decode prog_4_method_5_code 64 = .ok (.aload_n 0, 1) := by decide +kernel
theorem dB_moveByCommit_65 : decode prog_4_method_5_code 65 = .ok (.getfield 15, 3) := by decide +kernel
theorem dB_moveByCommit_68 : decode prog_4_method_5_code 68 = .ok (.invokevirtual 63, 3) := by decide +kernel
theorem dB_moveByCommit_71 : decode prog_4_method_5_code 71 = .ok (.invokevirtual 66, 3) := by decide +kernel
theorem dB_moveByCommit_74 : decode prog_4_method_5_code 74 = .ok (.return_, 1) := by decide +kernel
theorem dB_dropOldKeys_0 : decode prog_4_method_8_code 0 = .ok (.iconst 0, 1) := by decide +kernel
theorem dB_dropOldKeys_1 : decode prog_4_method_8_code 1 = .ok (.istore_n 2, 1) := by decide +kernel
theorem dB_dropOldKeys_2 : decode prog_4_method_8_code 2 = .ok (.iload_n 2, 1) := by decide +kernel
theorem dB_dropOldKeys_3 : decode prog_4_method_8_code 3 = .ok (.iconst 4, 1) := by decide +kernel
theorem dB_dropOldKeys_4 : decode prog_4_method_8_code 4 = .ok (.if_icmp .gt 37, 3) := by decide +kernel
theorem dB_dropOldKeys_7 : decode prog_4_method_8_code 7 = .ok (.aload_n 0, 1) := by decide +kernel
theorem dB_dropOldKeys_8 : decode prog_4_method_8_code 8 = .ok (.getfield 21, 3) := by decide +kernel
theorem dB_dropOldKeys_11 : decode prog_4_method_8_code 11 = .ok (.iload_n 2, 1) := by decide +kernel
theorem dB_dropOldKeys_12 : decode prog_4_method_8_code 12 = .ok (.iaload, 1) := by decide +kernel
theorem dB_dropOldKeys_13 : decode prog_4_method_8_code 13 = .ok (.aload_n 1, 1) := by decide +kernel
theorem dB_dropOldKeys_14 : decode prog_4_method_8_code 14 = .ok (.aload_n 0, 1) := by decide +kernel
theorem dB_dropOldKeys_15 : decode prog_4_method_8_code 15 = .ok (.getfield 15, 3) := by decide +kernel
theorem dB_dropOldKeys_18 : decode prog_4_method_8_code 18 = .ok (.iload_n 2, 1) := by decide +kernel
theorem dB_dropOldKeys_19 : decode prog_4_method_8_code 19 = .ok (.invokestatic 86, 3) := by decide +kernel
theorem dB_dropOldKeys_22 : decode prog_4_method_8_code 22 = .ok (.invokevirtual 54, 3) := by decide +kernel
theorem dB_dropOldKeys_25 : decode prog_4_method_8_code 25 = .ok (.if_icmp .eq 10, 3) := by decide +kernel
theorem dB_dropOldKeys_28 : decode prog_4_method_8_code 28 = .ok (.aload_n 0, 1) := by decide +kernel
theorem dB_dropOldKeys_29 : decode prog_4_method_8_code 29 = .ok (.getfield 21, 3) := by decide +kernel
theorem dB_dropOldKeys_32 : decode prog_4_method_8_code 32 = .ok (.iload_n 2, 1) := by decide +kernel
theorem dB_dropOldKeys_33 : decode prog_4_method_8_code 33 = .ok (.iconst (-1), 1) := by decide +kernel
theorem dB_dropOldKeys_34 : decode prog_4_method_8_code 34 = .ok (.iastore, 1) := by decide +kernel
theorem dB_dropOldKeys_35 : decode prog_4_method_8_code 35 = .ok (.iinc 2 1, 3) := by decide +kernel
theorem dB_dropOldKeys_38 : decode prog_4_method_8_code 38 = .ok (.goto (-36), 3) := by decide +kernel
theorem dB_dropOldKeys_41 : decode prog_4_method_8_code 41 = .ok (.return_, 1) := by decide +kernel
theorem dB_learnPath_0 : decode prog_4_method_9_code 0 = .ok (.iload_n 2, 1) := by decide +kernel
theorem dB_learnPath_1 : decode prog_4_method_9_code 1 = .ok (.iconst (-1), 1) := by decide +kernel
theorem dB_learnPath_2 : decode prog_4_method_9_code 2 = .ok (.if_icmp .ne 4, 3) := by decide +kernel
theorem dB_learnPath_5 : decode prog_4_method_9_code 5 = .ok (.return_, 1) := by decide +kernel
theorem dB_learnPath_6 : decode prog_4_method_9_code 6 = .ok (.iload_n 2, 1) := by decide +kernel
theorem dB_learnPath_7 : decode prog_4_method_9_code 7 = .ok (.iconst 1, 1) := by decide +kernel
theorem dB_learnPath_8 : decode prog_4_method_9_code 8 = .ok (.invokestatic 99, 3) := by decide +kernel
theorem dB_learnPath_11 : decode prog_4_method_9_code 11 = .ok (.istore_n 3, 1) := by decide +kernel
theorem dB_learnPath_12 : decode prog_4_method_9_code 12 = .ok (.iload_n 3, 1) := by decide +kernel
theorem dB_learnPath_13 : decode prog_4_method_9_code 13 = .ok (.iconst 4, 1) := by decide +kernel
theorem dB_learnPath_14 : decode prog_4_method_9_code 14 = .ok (.if_icmp .gt 47, 3) := by decide +kernel
theorem dB_learnPath_17 : decode prog_4_method_9_code 17 = .ok (.aload_n 0, 1) := by decide +kernel
theorem dB_learnPath_18 : decode prog_4_method_9_code 18 = .ok (.getfield 15, 3) := by decide +kernel
theorem dB_learnPath_21 : decode prog_4_method_9_code 21 = .ok (.iload_n 3, 1) := by decide +kernel
theorem dB_learnPath_22 : decode prog_4_method_9_code 22 = .ok (.invokestatic 86, 3) := by decide +kernel
theorem dB_learnPath_25 : decode prog_4_method_9_code 25 = .ok (.istore 4, 2) := by decide +kernel
theorem dB_learnPath_27 : decode prog_4_method_9_code 27 = .ok (.aload_n 1, 1) := by decide +kernel
theorem dB_learnPath_28 : decode prog_4_method_9_code 28 = .ok (.getfield 104, 3) := by decide +kernel
theorem dB_learnPath_31 : decode prog_4_method_9_code 31 = .ok (.iload 4, 2) := by decide +kernel
theorem dB_learnPath_33 : decode prog_4_method_9_code 33 = .ok (.invokestatic 73, 3) := by decide +kernel
theorem dB_learnPath_36 : decode prog_4_method_9_code 36 = .ok (.iand, 1) := by decide +kernel
theorem dB_learnPath_37 : decode prog_4_method_9_code 37 = .ok (.ifCond .eq 18, 3) := by decide +kernel
theorem dB_learnPath_40 : decode prog_4_method_9_code 40 = .ok (.aload_n 0, 1) := by decide +kernel
theorem dB_learnPath_41 : decode prog_4_method_9_code 41 = .ok (.getfield 21, 3) := by decide +kernel
theorem dB_learnPath_44 : decode prog_4_method_9_code 44 = .ok (.iload_n 3, 1) := by decide +kernel
theorem dB_learnPath_45 : decode prog_4_method_9_code 45 = .ok (.aload_n 1, 1) := by decide +kernel
theorem dB_learnPath_46 : decode prog_4_method_9_code 46 = .ok (.getfield 46, 3) := by decide +kernel
theorem dB_learnPath_49 : decode prog_4_method_9_code 49 = .ok (.iload 4, 2) := by decide +kernel
theorem dB_learnPath_51 : decode prog_4_method_9_code 51 = .ok (.invokevirtual 54, 3) := by decide +kernel
theorem dB_learnPath_54 : decode prog_4_method_9_code 54 = .ok (.iastore, 1) := by decide +kernel
theorem dB_learnPath_55 : decode prog_4_method_9_code 55 = .ok (.iinc 3 1, 3) := by decide +kernel
theorem dB_learnPath_58 : decode prog_4_method_9_code 58 = .ok (.goto (-46), 3) := by decide +kernel
theorem dB_learnPath_61 : decode prog_4_method_9_code 61 = .ok (.return_, 1) := by decide +kernel
theorem dB_follow_0 : decode prog_4_method_6_code 0 = .ok (.aload_n 1, 1) := by decide +kernel
theorem dB_follow_1 : decode prog_4_method_6_code 1 = .ok (.getfield 70, 3) := by decide +kernel
theorem dB_follow_4 : decode prog_4_method_6_code 4 = .ok (.aload_n 0, 1) := by decide +kernel
theorem dB_follow_5 : decode prog_4_method_6_code 5 = .ok (.getfield 15, 3) := by decide +kernel
theorem dB_follow_8 : decode prog_4_method_6_code 8 = .ok (.invokestatic 73, 3) := by decide +kernel
theorem dB_follow_11 : decode prog_4_method_6_code 11 = .ok (.iand, 1) := by decide +kernel
theorem dB_follow_12 : decode prog_4_method_6_code 12 = .ok (.ifCond .eq 8, 3) := by decide +kernel
theorem dB_follow_15 : decode prog_4_method_6_code 15 = .ok (.aload_n 0, 1) := by decide +kernel
theorem dB_follow_16 : decode prog_4_method_6_code 16 = .ok (.invokevirtual 37, 3) := by decide +kernel
theorem dB_follow_19 : decode prog_4_method_6_code 19 = .ok (.return_, 1) := by decide +kernel
theorem dB_follow_20 : decode prog_4_method_6_code 20 = .ok (.aload_n 1, 1) := by decide +kernel
theorem dB_follow_21 : decode prog_4_method_6_code 21 = .ok (.getfield 76, 3) := by decide +kernel
theorem dB_follow_24 : decode prog_4_method_6_code 24 = .ok (.aload_n 0, 1) := by decide +kernel
theorem dB_follow_25 : decode prog_4_method_6_code 25 = .ok (.getfield 15, 3) := by decide +kernel
theorem dB_follow_28 : decode prog_4_method_6_code 28 = .ok (.invokestatic 73, 3) := by decide +kernel
theorem dB_follow_31 : decode prog_4_method_6_code 31 = .ok (.iand, 1) := by decide +kernel
theorem dB_follow_32 : decode prog_4_method_6_code 32 = .ok (.ifCond .eq 23, 3) := by decide +kernel
theorem dB_follow_35 : decode prog_4_method_6_code 35 = .ok (.aload_n 0, 1) := by decide +kernel
theorem dB_follow_36 : decode prog_4_method_6_code 36 = .ok (.getfield 21, 3) := by decide +kernel
theorem dB_follow_39 : decode prog_4_method_6_code 39 = .ok (.iconst 0, 1) := by decide +kernel
theorem dB_follow_40 : decode prog_4_method_6_code 40 = .ok (.aload_n 1, 1) := by decide +kernel
theorem dB_follow_41 : decode prog_4_method_6_code 41 = .ok (.getfield 46, 3) := by decide +kernel
theorem dB_follow_44 : decode prog_4_method_6_code 44 = .ok (.aload_n 0, 1) := by decide +kernel
theorem dB_follow_45 : decode prog_4_method_6_code 45 = .ok (.getfield 15, 3) := by decide +kernel
theorem dB_follow_48 : decode prog_4_method_6_code 48 = .ok (.invokestatic 50, 3) := by decide +kernel
theorem dB_follow_51 : decode prog_4_method_6_code 51 = .ok (.invokevirtual 54, 3) := by decide +kernel
theorem dB_follow_54 : decode prog_4_method_6_code 54 = .ok (.iastore, 1) := by decide +kernel
theorem dB_follow_55 : decode prog_4_method_6_code 55 = .ok (.aload_n 1, 1) := by decide +kernel
theorem dB_follow_56 : decode prog_4_method_6_code 56 = .ok (.aload_n 0, 1) := by decide +kernel
theorem dB_follow_57 : decode prog_4_method_6_code 57 = .ok (.getfield 15, 3) := by decide +kernel
theorem dB_follow_60 : decode prog_4_method_6_code 60 = .ok (.invokevirtual 63, 3) := by decide +kernel
theorem dB_follow_63 : decode prog_4_method_6_code 63 = .ok (.istore_n 2, 1) := by decide +kernel
theorem dB_follow_64 : decode prog_4_method_6_code 64 = .ok (.iload_n 2, 1) := by decide +kernel
theorem dB_follow_65 : decode prog_4_method_6_code 65 = .ok (.iconst (-1), 1) := by decide +kernel
theorem dB_follow_66 : decode prog_4_method_6_code 66 = .ok (.if_icmp .eq 16, 3) := by decide +kernel
theorem dB_follow_69 : decode prog_4_method_6_code 69 = .ok (.aload_n 0, 1) := by decide +kernel
theorem dB_follow_70 : decode prog_4_method_6_code 70 = .ok (.aload_n 1, 1) := by decide +kernel
theorem dB_follow_71 : decode prog_4_method_6_code 71 = .ok (.iload_n 2, 1) := by decide +kernel
theorem dB_follow_72 : decode prog_4_method_6_code 72 = .ok (.invokevirtual 79, 3) := by decide +kernel
theorem dB_follow_75 : decode prog_4_method_6_code 75 = .ok (.ifCond .ne 7, 3) := by decide +kernel
theorem dB_follow_78 : decode prog_4_method_6_code 78 = .ok (.iconst 1, 1) := by decide +kernel
theorem dB_follow_79 : decode prog_4_method_6_code 79 = .ok (.goto 4, 3) := by decide +kernel
theorem dB_follow_82 : decode prog_4_method_6_code 82 = .ok (.iconst 0, 1) := by decide +kernel
theorem dB_follow_83 : decode prog_4_method_6_code 83 = .ok (.istore_n 3, 1) := by decide +kernel
theorem dB_follow_84 : decode prog_4_method_6_code 84 = .ok (.aload_n 0, 1) := by decide +kernel
theorem dB_follow_85 : decode prog_4_method_6_code 85 = .ok (.aload_n 1, 1) := by decide +kernel
theorem dB_follow_86 : decode prog_4_method_6_code 86 = .ok (.getfield 46, 3) := by decide +kernel
theorem dB_follow_89 : decode prog_4_method_6_code 89 = .ok (.invokevirtual 59, 3) := by decide +kernel
theorem dB_follow_92 : decode prog_4_method_6_code 92 = .ok (.iload_n 3, 1) := by decide +kernel
theorem dB_follow_93 : decode prog_4_method_6_code 93 = .ok (.ifCond .eq 16, 3) := by decide +kernel
theorem dB_follow_96 : decode prog_4_method_6_code 96 = .ok (.aload_n 0, 1) := by decide +kernel
theorem dB_follow_97 : decode prog_4_method_6_code 97 = .ok (.dup, 1) := by decide +kernel
theorem dB_follow_98 : decode prog_4_method_6_code 98 = .ok (.getfield 83, 3) := by decide +kernel
theorem dB_follow_101 : decode prog_4_method_6_code 101 = .ok (.iconst 1, 1) := by decide +kernel
theorem dB_follow_102 : decode prog_4_method_6_code 102 = .ok (.iadd, 1) := by decide +kernel
theorem dB_follow_103 : decode prog_4_method_6_code 103 = .ok (.putfield 83, 3) := by decide +kernel
theorem dB_follow_106 : decode prog_4_method_6_code 106 = .ok (.goto 9, 3) := by decide +kernel
theorem dB_follow_109 : decode prog_4_method_6_code 109 = .ok (.aload_n 0, 1) := by decide +kernel
theorem dB_follow_110 : decode prog_4_method_6_code 110 = .ok (.aload_n 1, 1) := by decide +kernel
theorem dB_follow_111 : decode prog_4_method_6_code 111 = .ok (.iload_n 2, 1) := by decide +kernel
theorem dB_follow_112 : decode prog_4_method_6_code 112 = .ok (.invokevirtual 66, 3) := by decide +kernel
theorem dB_follow_115 : decode prog_4_method_6_code 115 = .ok (.aload_n 0, 1) := by decide +kernel
theorem dB_follow_116 : decode prog_4_method_6_code 116 = .ok (.aload_n 1, 1) := by decide +kernel
theorem dB_follow_117 : decode prog_4_method_6_code 117 = .ok (.getfield 40, 3) := by decide +kernel
theorem dB_follow_120 : decode prog_4_method_6_code 120 = .ok (.putfield 9, 3) := by decide +kernel
theorem dB_follow_123 : decode prog_4_method_6_code 123 = .ok (.aload_n 0, 1) := by decide +kernel
theorem dB_follow_124 : decode prog_4_method_6_code 124 = .ok (.aload_n 0, 1) := by decide +kernel
theorem dB_follow_125 : decode prog_4_method_6_code 125 = .ok (.getfield 18, 3) := by decide +kernel
theorem dB_follow_128 : decode prog_4_method_6_code 128 = .ok (.iconst (-1), 1) := by decide +kernel
theorem dB_follow_129 : decode prog_4_method_6_code 129 = .ok (.if_icmp .eq 7, 3) := by decide +kernel
theorem dB_follow_132 : decode prog_4_method_6_code 132 = .ok (.iload_n 3, 1) := by decide +kernel
theorem dB_follow_133 : decode prog_4_method_6_code 133 = .ok (.ifCond .eq 7, 3) := by decide +kernel
theorem dB_follow_136 : decode prog_4_method_6_code 136 = .ok (.iconst (-1), 1) := by decide +kernel
theorem dB_follow_137 : decode prog_4_method_6_code 137 = .ok (.goto 7, 3) := by decide +kernel
theorem dB_follow_140 : decode prog_4_method_6_code 140 = .ok (.aload_n 1, 1) := by decide +kernel
theorem dB_follow_141 : decode prog_4_method_6_code 141 = .ok (.getfield 45, 3) := by decide +kernel
theorem dB_follow_144 : decode prog_4_method_6_code 144 = .ok (.putfield 18, 3) := by decide +kernel
theorem dB_follow_147 : decode prog_4_method_6_code 147 = .ok (.aload_n 0, 1) := by decide +kernel
theorem dB_follow_148 : decode prog_4_method_6_code 148 = .ok (.iconst 0, 1) := by decide +kernel
theorem dB_follow_149 : decode prog_4_method_6_code 149 = .ok (.putfield 34, 3) := by decide +kernel
theorem dB_follow_152 : decode prog_4_method_6_code 152 = .ok (.return_, 1) := by decide +kernel
theorem dB_canOpen_0 : decode prog_4_method_7_code 0 = .ok (.aload_n 0, 1) := by decide +kernel
theorem dB_canOpen_1 : decode prog_4_method_7_code 1 = .ok (.getfield 15, 3) := by decide +kernel
theorem dB_canOpen_4 : decode prog_4_method_7_code 4 = .ok (.iload_n 2, 1) := by decide +kernel
theorem dB_canOpen_5 : decode prog_4_method_7_code 5 = .ok (.iconst 1, 1) := by decide +kernel
theorem dB_canOpen_6 : decode prog_4_method_7_code 6 = .ok (.isub, 1) := by decide +kernel
theorem dB_canOpen_7 : decode prog_4_method_7_code 7 = .ok (.invokestatic 86, 3) := by decide +kernel
theorem dB_canOpen_10 : decode prog_4_method_7_code 10 = .ok (.istore_n 3, 1) := by decide +kernel
theorem dB_canOpen_11 : decode prog_4_method_7_code 11 = .ok (.aload_n 1, 1) := by decide +kernel
theorem dB_canOpen_12 : decode prog_4_method_7_code 12 = .ok (.getfield 46, 3) := by decide +kernel
theorem dB_canOpen_15 : decode prog_4_method_7_code 15 = .ok (.iload_n 3, 1) := by decide +kernel
theorem dB_canOpen_16 : decode prog_4_method_7_code 16 = .ok (.iload_n 2, 1) := by decide +kernel
theorem dB_canOpen_17 : decode prog_4_method_7_code 17 = .ok (.iconst 1, 1) := by decide +kernel
theorem dB_canOpen_18 : decode prog_4_method_7_code 18 = .ok (.isub, 1) := by decide +kernel
theorem dB_canOpen_19 : decode prog_4_method_7_code 19 = .ok (.invokevirtual 90, 3) := by decide +kernel
theorem dB_canOpen_22 : decode prog_4_method_7_code 22 = .ok (.aload_n 1, 1) := by decide +kernel
theorem dB_canOpen_23 : decode prog_4_method_7_code 23 = .ok (.getfield 93, 3) := by decide +kernel
theorem dB_canOpen_26 : decode prog_4_method_7_code 26 = .ok (.invokestatic 96, 3) := by decide +kernel
theorem dB_canOpen_29 : decode prog_4_method_7_code 29 = .ok (.iconst (-1), 1) := by decide +kernel
theorem dB_canOpen_30 : decode prog_4_method_7_code 30 = .ok (.ixor, 1) := by decide +kernel
theorem dB_canOpen_31 : decode prog_4_method_7_code 31 = .ok (.iand, 1) := by decide +kernel
theorem dB_canOpen_32 : decode prog_4_method_7_code 32 = .ok (.istore 4, 2) := by decide +kernel
theorem dB_canOpen_34 : decode prog_4_method_7_code 34 = .ok (.iconst 0, 1) := by decide +kernel
theorem dB_canOpen_35 : decode prog_4_method_7_code 35 = .ok (.istore 5, 2) := by decide +kernel
theorem dB_canOpen_37 : decode prog_4_method_7_code 37 = .ok (.iload 5, 2) := by decide +kernel
theorem dB_canOpen_39 : decode prog_4_method_7_code 39 = .ok (.iload_n 2, 1) := by decide +kernel
theorem dB_canOpen_40 : decode prog_4_method_7_code 40 = .ok (.if_icmp .ge 58, 3) := by decide +kernel
theorem dB_canOpen_43 : decode prog_4_method_7_code 43 = .ok (.iload 5, 2) := by decide +kernel
theorem dB_canOpen_45 : decode prog_4_method_7_code 45 = .ok (.iconst 4, 1) := by decide +kernel
theorem dB_canOpen_46 : decode prog_4_method_7_code 46 = .ok (.if_icmp .gt 52, 3) := by decide +kernel
theorem dB_canOpen_49 : decode prog_4_method_7_code 49 = .ok (.aload_n 0, 1) := by decide +kernel
theorem dB_canOpen_50 : decode prog_4_method_7_code 50 = .ok (.getfield 15, 3) := by decide +kernel
theorem dB_canOpen_53 : decode prog_4_method_7_code 53 = .ok (.iload 5, 2) := by decide +kernel
theorem dB_canOpen_55 : decode prog_4_method_7_code 55 = .ok (.invokestatic 86, 3) := by decide +kernel
theorem dB_canOpen_58 : decode prog_4_method_7_code 58 = .ok (.istore 6, 2) := by decide +kernel
theorem dB_canOpen_60 : decode prog_4_method_7_code 60 = .ok (.iload 4, 2) := by decide +kernel
theorem dB_canOpen_62 : decode prog_4_method_7_code 62 = .ok (.iload 6, 2) := by decide +kernel
theorem dB_canOpen_64 : decode prog_4_method_7_code 64 = .ok (.invokestatic 73, 3) := by decide +kernel
theorem dB_canOpen_67 : decode prog_4_method_7_code 67 = .ok (.iand, 1) := by decide +kernel
theorem dB_canOpen_68 : decode prog_4_method_7_code 68 = .ok (.ifCond .eq 24, 3) := by decide +kernel
theorem dB_canOpen_71 : decode prog_4_method_7_code 71 = .ok (.aload_n 0, 1) := by decide +kernel
theorem dB_canOpen_72 : decode prog_4_method_7_code 72 = .ok (.getfield 21, 3) := by decide +kernel
theorem dB_canOpen_75 : decode prog_4_method_7_code 75 = .ok (.iload 5, 2) := by decide +kernel
theorem dB_canOpen_77 : decode prog_4_method_7_code 77 = .ok (.iaload, 1) := by decide +kernel
theorem dB_canOpen_78 : decode prog_4_method_7_code 78 = .ok (.aload_n 1, 1) := by decide +kernel
theorem dB_canOpen_79 : decode prog_4_method_7_code 79 = .ok (.getfield 46, 3) := by decide +kernel
theorem dB_canOpen_82 : decode prog_4_method_7_code 82 = .ok (.iload 6, 2) := by decide +kernel
theorem dB_canOpen_84 : decode prog_4_method_7_code 84 = .ok (.invokevirtual 54, 3) := by decide +kernel
theorem dB_canOpen_87 : decode prog_4_method_7_code 87 = .ok (.if_icmp .ne 5, 3) := by decide +kernel
theorem dB_canOpen_90 : decode prog_4_method_7_code 90 = .ok (.iconst 1, 1) := by decide +kernel
theorem dB_canOpen_91 : decode prog_4_method_7_code 91 = .ok (.ireturn, 1) := by decide +kernel
theorem dB_canOpen_92 : decode prog_4_method_7_code 92 = .ok (.iinc 5 1, 3) := by decide +kernel
theorem dB_canOpen_95 : decode prog_4_method_7_code 95 = .ok (.goto (-58), 3) := by decide +kernel
theorem dB_canOpen_98 : decode prog_4_method_7_code 98 = .ok (.iconst 0, 1) := by decide +kernel
theorem dB_canOpen_99 : decode prog_4_method_7_code 99 = .ok (.ireturn, 1) := by decide +kernel
