theorem dG_commit_149 : decode prog_1_method_6_code 149 = .ok (.istore 7, 2) := by decide +kernel
theorem dG_commit_151 : decode prog_1_method_6_code 151 = .ok (.iload 7, 2) := by decide +kernel
theorem dG_commit_153 : decode prog_1_method_6_code 153 = .ok (.ifCond .eq 12, 3) := by decide +kernel
theorem dG_commit_156 : decode prog_1_method_6_code 156 = .ok (.aload_n 0, 1) := by decide +kernel
theorem dG_commit_157 : decode prog_1_method_6_code 157 = .ok (.aload 5, 2) := by decide +kernel
theorem dG_commit_159 : decode prog_1_method_6_code 159 = .ok (.invokevirtual 141, 3) := by decide +kernel
theorem dG_commit_162 : decode prog_1_method_6_code 162 = .ok (.goto 4, 3) := by decide +kernel
theorem dG_commit_165 : decode prog_1_method_6_code 165 = .ok (.iconst 0, 1) := by decide +kernel
theorem dG_commit_166 : decode prog_1_method_6_code 166 = .ok (.istore 8, 2) := by decide +kernel
theorem dG_commit_168 : decode prog_1_method_6_code 168 = .ok (.aload_n 0, 1) := by decide +kernel
theorem dG_commit_169 : decode prog_1_method_6_code 169 = .ok (.aload 4, 2) := by decide +kernel
theorem dG_commit_171 : decode prog_1_method_6_code 171 = .ok (.aload 5, 2) := by decide +kernel
theorem dG_commit_173 : decode prog_1_method_6_code 173 = .ok (.iload 8, 2) := by decide +kernel
theorem dG_commit_175 : decode prog_1_method_6_code 175 = .ok (.invokevirtual 145, 3) := by decide +kernel
theorem dG_commit_178 : decode prog_1_method_6_code 178 = .ok (.aload_n 3, 1) := by decide +kernel
theorem dG_commit_179 : decode prog_1_method_6_code 179 = .ok (.aload 5, 2) := by decide +kernel
theorem dG_commit_181 : decode prog_1_method_6_code 181 = .ok (.invokevirtual 149, 3) := by decide +kernel
theorem dG_commit_184 : decode prog_1_method_6_code 184 = .ok (.aload_n 0, 1) := by decide +kernel
theorem dG_commit_185 : decode prog_1_method_6_code 185 = .ok (.iconst 0, 1) := by decide +kernel
theorem dG_commit_186 : decode prog_1_method_6_code 186 = .ok (.putfield 152, 3) := by decide +kernel
theorem dG_commit_189 : decode prog_1_method_6_code 189 = .ok (.aload_n 0, 1) := by decide +kernel
theorem dG_commit_190 : decode prog_1_method_6_code 190 = .ok (.getfield 12, 3) := by decide +kernel
theorem dG_commit_193 : decode prog_1_method_6_code 193 = .ok (.iload 6, 2) := by decide +kernel
theorem dG_commit_195 : decode prog_1_method_6_code 195 = .ok (.invokevirtual 155, 3) := by decide +kernel
theorem dG_commit_198 : decode prog_1_method_6_code 198 = .ok (.aload 5, 2) := by decide +kernel
theorem dG_commit_200 : decode prog_1_method_6_code 200 = .ok (.getfield 158, 3) := by decide +kernel
theorem dG_commit_203 : decode prog_1_method_6_code 203 = .ok (.ireturn, 1) := by decide +kernel
theorem dG_doRemoves_0 : decode prog_1_method_24_code 0 = .ok (.iconst 0, 1) := by decide +kernel
theorem dG_doRemoves_1 : decode prog_1_method_24_code 1 = .ok (.istore_n 2, 1) := by decide +kernel
theorem dG_doRemoves_2 : decode prog_1_method_24_code 2 = .ok (.iload_n 2, 1) := by decide +kernel
theorem dG_doRemoves_3 : decode prog_1_method_24_code 3 = .ok (.aload_n 0, 1) := by decide +kernel
theorem dG_doRemoves_4 : decode prog_1_method_24_code 4 = .ok (.getfield 152, 3) := by decide +kernel
theorem dG_doRemoves_7 : decode prog_1_method_24_code 7 = .ok (.if_icmp .ge 88, 3) := by decide +kernel
theorem dG_doRemoves_10 : decode prog_1_method_24_code 10 = .ok (.aload_n 0, 1) := by decide +kernel
theorem dG_doRemoves_11 : decode prog_1_method_24_code 11 = .ok (.getfield 36, 3) := by decide +kernel
theorem dG_doRemoves_14 : decode prog_1_method_24_code 14 = .ok (.iload_n 2, 1) := by decide +kernel
theorem dG_doRemoves_15 : decode prog_1_method_24_code 15 = .ok (.aaload, 1) := by decide +kernel
theorem dG_doRemoves_16 : decode prog_1_method_24_code 16 = .ok (.astore_n 3, 1) := by decide +kernel
theorem dG_doRemoves_17 : decode prog_1_method_24_code 17 = .ok (.aload_n 3, 1) := by decide +kernel
theorem dG_doRemoves_18 : decode prog_1_method_24_code 18 = .ok (.getfield 227, 3) := by decide +kernel
theorem dG_doRemoves_21 : decode prog_1_method_24_code 21 = .ok (.iconst 1, 1) := by decide +kernel
theorem dG_doRemoves_22 : decode prog_1_method_24_code 22 = .ok (.if_icmp .ne 67, 3) := by decide +kernel
theorem dG_doRemoves_25 : decode prog_1_method_24_code 25 = .ok (.aload_n 3, 1) := by decide +kernel
theorem dG_doRemoves_26 : decode prog_1_method_24_code 26 = .ok (.getfield 230, 3) := by decide +kernel
theorem dG_doRemoves_29 : decode prog_1_method_24_code 29 = .ok (.aload_n 1, 1) := by decide +kernel
theorem dG_doRemoves_30 : decode prog_1_method_24_code 30 = .ok (.getfield 215, 3) := by decide +kernel
theorem dG_doRemoves_33 : decode prog_1_method_24_code 33 = .ok (.if_icmp .eq 56, 3) := by decide +kernel
theorem dG_doRemoves_36 : decode prog_1_method_24_code 36 = .ok (.aload_n 1, 1) := by decide +kernel
theorem dG_doRemoves_37 : decode prog_1_method_24_code 37 = .ok (.getfield 60, 3) := by decide +kernel
theorem dG_doRemoves_40 : decode prog_1_method_24_code 40 = .ok (.aload_n 3, 1) := by decide +kernel
theorem dG_doRemoves_41 : decode prog_1_method_24_code 41 = .ok (.getfield 230, 3) := by decide +kernel
theorem dG_doRemoves_44 : decode prog_1_method_24_code 44 = .ok (.invokestatic 233, 3) := by decide +kernel
theorem dG_doRemoves_47 : decode prog_1_method_24_code 47 = .ok (.invokevirtual 187, 3) := by decide +kernel
theorem dG_doRemoves_50 : decode prog_1_method_24_code 50 = .ok (.iconst (-1), 1) := by decide +kernel
theorem dG_doRemoves_51 : decode prog_1_method_24_code 51 = .ok (.if_icmp .eq 38, 3) := by decide +kernel
theorem dG_doRemoves_54 : decode prog_1_method_24_code 54 = .ok (.aload_n 1, 1) := by decide +kernel
theorem dG_doRemoves_55 : decode prog_1_method_24_code 55 = .ok (.getfield 60, 3) := by decide +kernel
theorem dG_doRemoves_58 : decode prog_1_method_24_code 58 = .ok (.aload_n 3, 1) := by decide +kernel
theorem dG_doRemoves_59 : decode prog_1_method_24_code 59 = .ok (.getfield 230, 3) := by decide +kernel
theorem dG_doRemoves_62 : decode prog_1_method_24_code 62 = .ok (.invokevirtual 236, 3) := by decide +kernel
theorem dG_doRemoves_65 : decode prog_1_method_24_code 65 = .ok (.aload_n 1, 1) := by decide +kernel
theorem dG_doRemoves_66 : decode prog_1_method_24_code 66 = .ok (.dup, 1) := by decide +kernel
theorem dG_doRemoves_67 : decode prog_1_method_24_code 67 = .ok (.getfield 132, 3) := by decide +kernel
theorem dG_doRemoves_70 : decode prog_1_method_24_code 70 = .ok (.aload_n 3, 1) := by decide +kernel
theorem dG_doRemoves_71 : decode prog_1_method_24_code 71 = .ok (.getfield 230, 3) := by decide +kernel
theorem dG_doRemoves_74 : decode prog_1_method_24_code 74 = .ok (.invokestatic 239, 3) := by decide +kernel
theorem dG_doRemoves_77 : decode prog_1_method_24_code 77 = .ok (.ior, 1) := by decide +kernel
theorem dG_doRemoves_78 : decode prog_1_method_24_code 78 = .ok (.putfield 132, 3) := by decide +kernel
theorem dG_doRemoves_81 : decode prog_1_method_24_code 81 = .ok (.aload_n 0, 1) := by decide +kernel
theorem dG_doRemoves_82 : decode prog_1_method_24_code 82 = .ok (.aload_n 3, 1) := by decide +kernel
theorem dG_doRemoves_83 : decode prog_1_method_24_code 83 = .ok (.getfield 230, 3) := by decide +kernel
theorem dG_doRemoves_86 : decode prog_1_method_24_code 86 = .ok (.invokevirtual 242, 3) := by decide +kernel
theorem dG_doRemoves_89 : decode prog_1_method_24_code 89 = .ok (.iinc 2 1, 3) := by decide +kernel
theorem dG_doRemoves_92 : decode prog_1_method_24_code 92 = .ok (.goto (-90), 3) := by decide +kernel
theorem dG_doRemoves_95 : decode prog_1_method_24_code 95 = .ok (.aload_n 1, 1) := by decide +kernel
theorem dG_doRemoves_96 : decode prog_1_method_24_code 96 = .ok (.getfield 60, 3) := by decide +kernel
theorem dG_doRemoves_99 : decode prog_1_method_24_code 99 = .ok (.invokevirtual 245, 3) := by decide +kernel
theorem dG_doRemoves_102 : decode prog_1_method_24_code 102 = .ok (.return_, 1) := by decide +kernel
theorem dG_pathNode_0 : decode prog_1_method_41_code 0 = .ok (.iload_n 0, 1) := by decide +kernel
theorem dG_pathNode_1 : decode prog_1_method_41_code 1 = .ok (.iload_n 1, 1) := by decide +kernel
theorem dG_pathNode_2 : decode prog_1_method_41_code 2 = .ok (.ishr, 1) := by decide +kernel
theorem dG_pathNode_3 : decode prog_1_method_41_code 3 = .ok (.iload_n 1, 1) := by decide +kernel
theorem dG_pathNode_4 : decode prog_1_method_41_code 4 = .ok (.iconst 1, 1) := by decide +kernel
theorem dG_pathNode_5 : decode prog_1_method_41_code 5 = .ok (.iadd, 1) := by decide +kernel
theorem dG_pathNode_6 : decode prog_1_method_41_code 6 = .ok (.ishl, 1) := by decide +kernel
theorem dG_pathNode_7 : decode prog_1_method_41_code 7 = .ok (.iconst 1, 1) := by decide +kernel
theorem dG_pathNode_8 : decode prog_1_method_41_code 8 = .ok (.iload_n 1, 1) := by decide +kernel
theorem dG_pathNode_9 : decode prog_1_method_41_code 9 = .ok (.ishl, 1) := by decide +kernel
theorem dG_pathNode_10 : decode prog_1_method_41_code 10 = .ok (.iadd, 1) := by decide +kernel
theorem dG_pathNode_11 : decode prog_1_method_41_code 11 = .ok (.iconst 1, 1) := by decide +kernel
theorem dG_pathNode_12 : decode prog_1_method_41_code 12 = .ok (.isub, 1) := by decide +kernel
theorem dG_pathNode_13 : decode prog_1_method_41_code 13 = .ok (.ireturn, 1) := by decide +kernel
theorem dG_dismiss_0 : decode prog_1_method_25_code 0 = .ok (.aload_n 0, 1) := by decide +kernel
theorem dG_dismiss_1 : decode prog_1_method_25_code 1 = .ok (.getfield 40, 3) := by decide +kernel
theorem dG_dismiss_4 : decode prog_1_method_25_code 4 = .ok (.iload_n 1, 1) := by decide +kernel
theorem dG_dismiss_5 : decode prog_1_method_25_code 5 = .ok (.iaload, 1) := by decide +kernel
theorem dG_dismiss_6 : decode prog_1_method_25_code 6 = .ok (.istore_n 2, 1) := by decide +kernel
theorem dG_dismiss_7 : decode prog_1_method_25_code 7 = .ok (.aload_n 0, 1) := by decide +kernel
theorem dG_dismiss_8 : decode prog_1_method_25_code 8 = .ok (.getfield 40, 3) := by decide +kernel
theorem dG_dismiss_11 : decode prog_1_method_25_code 11 = .ok (.iload_n 1, 1) := by decide +kernel
theorem dG_dismiss_12 : decode prog_1_method_25_code 12 = .ok (.iconst (-1), 1) := by decide +kernel
theorem dG_dismiss_13 : decode prog_1_method_25_code 13 = .ok (.iastore, 1) := by decide +kernel
theorem dG_dismiss_14 : decode prog_1_method_25_code 14 = .ok (.iload_n 2, 1) := by decide +kernel
theorem dG_dismiss_15 : decode prog_1_method_25_code 15 = .ok (.invokestatic 83, 3) := by decide +kernel
theorem dG_dismiss_18 : decode prog_1_method_25_code 18 = .ok (.ifCond .eq 20, 3) := by decide +kernel
theorem dG_dismiss_21 : decode prog_1_method_25_code 21 = .ok (.aload_n 0, 1) := by decide +kernel
theorem dG_dismiss_22 : decode prog_1_method_25_code 22 = .ok (.iload_n 2, 1) := by decide +kernel
theorem dG_dismiss_23 : decode prog_1_method_25_code 23 = .ok (.invokevirtual 113, 3) := by decide +kernel
theorem dG_dismiss_26 : decode prog_1_method_25_code 26 = .ok (.ifCond .eq 12, 3) := by decide +kernel
theorem dG_dismiss_29 : decode prog_1_method_25_code 29 = .ok (.aload_n 0, 1) := by decide +kernel
theorem dG_dismiss_30 : decode prog_1_method_25_code 30 = .ok (.getfield 18, 3) := by decide +kernel
theorem dG_dismiss_33 : decode prog_1_method_25_code 33 = .ok (.iload_n 2, 1) := by decide +kernel
theorem dG_dismiss_34 : decode prog_1_method_25_code 34 = .ok (.aaload, 1) := by decide +kernel
theorem dG_dismiss_35 : decode prog_1_method_25_code 35 = .ok (.invokevirtual 248, 3) := by decide +kernel
theorem dG_dismiss_38 : decode prog_1_method_25_code 38 = .ok (.return_, 1) := by decide +kernel
theorem dG_doUpdates_0 : decode prog_1_method_26_code 0 = .ok (.iconst 0, 1) := by decide +kernel
theorem dG_doUpdates_1 : decode prog_1_method_26_code 1 = .ok (.istore_n 2, 1) := by decide +kernel
theorem dG_doUpdates_2 : decode prog_1_method_26_code 2 = .ok (.iload_n 2, 1) := by decide +kernel
theorem dG_doUpdates_3 : decode prog_1_method_26_code 3 = .ok (.aload_n 0, 1) := by decide +kernel
theorem dG_doUpdates_4 : decode prog_1_method_26_code 4 = .ok (.getfield 152, 3) := by decide +kernel
theorem dG_doUpdates_7 : decode prog_1_method_26_code 7 = .ok (.if_icmp .ge 99, 3) := by decide +kernel
theorem dG_doUpdates_10 : decode prog_1_method_26_code 10 = .ok (.aload_n 0, 1) := by decide +kernel
theorem dG_doUpdates_11 : decode prog_1_method_26_code 11 = .ok (.getfield 36, 3) := by decide +kernel
theorem dG_doUpdates_14 : decode prog_1_method_26_code 14 = .ok (.iload_n 2, 1) := by decide +kernel
theorem dG_doUpdates_15 : decode prog_1_method_26_code 15 = .ok (.aaload, 1) := by decide +kernel
theorem dG_doUpdates_16 : decode prog_1_method_26_code 16 = .ok (.astore_n 3, 1) := by decide +kernel
theorem dG_doUpdates_17 : decode prog_1_method_26_code 17 = .ok (.aload_n 3, 1) := by decide +kernel
theorem dG_doUpdates_18 : decode prog_1_method_26_code 18 = .ok (.getfield 227, 3) := by decide +kernel
theorem dG_doUpdates_21 : decode prog_1_method_26_code 21 = .ok (.iconst 2, 1) := by decide +kernel
theorem dG_doUpdates_22 : decode prog_1_method_26_code 22 = .ok (.if_icmp .ne 78, 3) := by decide +kernel
theorem dG_doUpdates_25 : decode prog_1_method_26_code 25 = .ok (.aload_n 3, 1) := by decide +kernel
theorem dG_doUpdates_26 : decode prog_1_method_26_code 26 = .ok (.getfield 230, 3) := by decide +kernel
theorem dG_doUpdates_29 : decode prog_1_method_26_code 29 = .ok (.aload_n 1, 1) := by decide +kernel
theorem dG_doUpdates_30 : decode prog_1_method_26_code 30 = .ok (.getfield 215, 3) := by decide +kernel
theorem dG_doUpdates_33 : decode prog_1_method_26_code 33 = .ok (.if_icmp .eq 67, 3) := by decide +kernel
theorem dG_doUpdates_36 : decode prog_1_method_26_code 36 = .ok (.aload_n 1, 1) := by decide +kernel
theorem dG_doUpdates_37 : decode prog_1_method_26_code 37 = .ok (.getfield 132, 3) := by decide +kernel
theorem dG_doUpdates_40 : decode prog_1_method_26_code 40 = .ok (.aload_n 3, 1) := by decide +kernel
theorem dG_doUpdates_41 : decode prog_1_method_26_code 41 = .ok (.getfield 230, 3) := by decide +kernel
theorem dG_doUpdates_44 : decode prog_1_method_26_code 44 = .ok (.invokestatic 239, 3) := by decide +kernel
theorem dG_doUpdates_47 : decode prog_1_method_26_code 47 = .ok (.iand, 1) := by decide +kernel
theorem dG_doUpdates_48 : decode prog_1_method_26_code 48 = .ok (.ifCond .ne 52, 3) := by decide +kernel
theorem dG_doUpdates_51 : decode prog_1_method_26_code 51 = .ok (.aload_n 1, 1) := by decide +kernel
theorem dG_doUpdates_52 : decode prog_1_method_26_code 52 = .ok (.getfield 60, 3) := by decide +kernel
theorem dG_doUpdates_55 : decode prog_1_method_26_code 55 = .ok (.aload_n 3, 1) := by decide +kernel
theorem dG_doUpdates_56 : decode prog_1_method_26_code 56 = .ok (.getfield 230, 3) := by decide +kernel
theorem dG_doUpdates_59 : decode prog_1_method_26_code 59 = .ok (.invokevirtual 236, 3) := by decide +kernel
theorem dG_doUpdates_62 : decode prog_1_method_26_code 62 = .ok (.aload_n 1, 1) := by decide +kernel
theorem dG_doUpdates_63 : decode prog_1_method_26_code 63 = .ok (.getfield 60, 3) := by decide +kernel
theorem dG_doUpdates_66 : decode prog_1_method_26_code 66 = .ok (.aload_n 3, 1) := by decide +kernel
theorem dG_doUpdates_67 : decode prog_1_method_26_code 67 = .ok (.getfield 230, 3) := by decide +kernel
theorem dG_doUpdates_70 : decode prog_1_method_26_code 70 = .ok (.invokestatic 233, 3) := by decide +kernel
theorem dG_doUpdates_73 : decode prog_1_method_26_code 73 = .ok (.aload_n 3, 1) := by decide +kernel
theorem dG_doUpdates_74 : decode prog_1_method_26_code 74 = .ok (.getfield 251, 3) := by decide +kernel
theorem dG_doUpdates_77 : decode prog_1_method_26_code 77 = .ok (.aload_n 1, 1) := by decide +kernel
theorem dG_doUpdates_78 : decode prog_1_method_26_code 78 = .ok (.getfield 158, 3) := by decide +kernel
theorem dG_doUpdates_81 : decode prog_1_method_26_code 81 = .ok (.invokevirtual 68, 3) := by decide +kernel
theorem dG_doUpdates_84 : decode prog_1_method_26_code 84 = .ok (.aload_n 1, 1) := by decide +kernel
theorem dG_doUpdates_85 : decode prog_1_method_26_code 85 = .ok (.dup, 1) := by decide +kernel
theorem dG_doUpdates_86 : decode prog_1_method_26_code 86 = .ok (.getfield 135, 3) := by decide +kernel
theorem dG_doUpdates_89 : decode prog_1_method_26_code 89 = .ok (.aload_n 3, 1) := by decide +kernel
theorem dG_doUpdates_90 : decode prog_1_method_26_code 90 = .ok (.getfield 230, 3) := by decide +kernel
theorem dG_doUpdates_93 : decode prog_1_method_26_code 93 = .ok (.invokestatic 239, 3) := by decide +kernel
theorem dG_doUpdates_96 : decode prog_1_method_26_code 96 = .ok (.ior, 1) := by decide +kernel
theorem dG_doUpdates_97 : decode prog_1_method_26_code 97 = .ok (.putfield 135, 3) := by decide +kernel
theorem dG_doUpdates_100 : decode prog_1_method_26_code 100 = .ok (.iinc 2 1, 3) := by decide +kernel
theorem dG_doUpdates_103 : decode prog_1_method_26_code 103 = .ok (.goto (-101), 3) := by decide +kernel
theorem dG_doUpdates_106 : decode prog_1_method_26_code 106 = .ok (.return_, 1) := by decide +kernel
theorem dG_doAdds_0 : decode prog_1_method_27_code 0 = .ok (.iconst 0, 1) := by decide +kernel
theorem dG_doAdds_1 : decode prog_1_method_27_code 1 = .ok (.istore_n 2, 1) := by decide +kernel
theorem dG_doAdds_2 : decode prog_1_method_27_code 2 = .ok (.iload_n 2, 1) := by decide +kernel
theorem dG_doAdds_3 : decode prog_1_method_27_code 3 = .ok (.aload_n 0, 1) := by decide +kernel
theorem dG_doAdds_4 : decode prog_1_method_27_code 4 = .ok (.getfield 152, 3) := by decide +kernel
theorem dG_doAdds_7 : decode prog_1_method_27_code 7 = .ok (.if_icmp .ge 61, 3) := by decide +kernel
theorem dG_doAdds_10 : decode prog_1_method_27_code 10 = .ok (.aload_n 0, 1) := by decide +kernel
theorem dG_doAdds_11 : decode prog_1_method_27_code 11 = .ok (.getfield 36, 3) := by decide +kernel
theorem dG_doAdds_14 : decode prog_1_method_27_code 14 = .ok (.iload_n 2, 1) := by decide +kernel
theorem dG_doAdds_15 : decode prog_1_method_27_code 15 = .ok (.aaload, 1) := by decide +kernel
theorem dG_doAdds_16 : decode prog_1_method_27_code 16 = .ok (.getfield 227, 3) := by decide +kernel
theorem dG_doAdds_19 : decode prog_1_method_27_code 19 = .ok (.ifCond .ne 43, 3) := by decide +kernel
theorem dG_doAdds_22 : decode prog_1_method_27_code 22 = .ok (.aload_n 0, 1) := by decide +kernel
theorem dG_doAdds_23 : decode prog_1_method_27_code 23 = .ok (.aload_n 0, 1) := by decide +kernel
theorem dG_doAdds_24 : decode prog_1_method_27_code 24 = .ok (.getfield 30, 3) := by decide +kernel
theorem dG_doAdds_27 : decode prog_1_method_27_code 27 = .ok (.aload_n 0, 1) := by decide +kernel
theorem dG_doAdds_28 : decode prog_1_method_27_code 28 = .ok (.getfield 36, 3) := by decide +kernel
theorem dG_doAdds_31 : decode prog_1_method_27_code 31 = .ok (.iload_n 2, 1) := by decide +kernel
theorem dG_doAdds_32 : decode prog_1_method_27_code 32 = .ok (.aaload, 1) := by decide +kernel
theorem dG_doAdds_33 : decode prog_1_method_27_code 33 = .ok (.getfield 230, 3) := by decide +kernel
theorem dG_doAdds_36 : decode prog_1_method_27_code 36 = .ok (.aaload, 1) := by decide +kernel
theorem dG_doAdds_37 : decode prog_1_method_27_code 37 = .ok (.invokevirtual 254, 3) := by decide +kernel
theorem dG_doAdds_40 : decode prog_1_method_27_code 40 = .ok (.ifCond .eq 22, 3) := by decide +kernel
theorem dG_doAdds_43 : decode prog_1_method_27_code 43 = .ok (.aload_n 0, 1) := by decide +kernel
theorem dG_doAdds_44 : decode prog_1_method_27_code 44 = .ok (.aload_n 0, 1) := by decide +kernel
theorem dG_doAdds_45 : decode prog_1_method_27_code 45 = .ok (.getfield 30, 3) := by decide +kernel
theorem dG_doAdds_48 : decode prog_1_method_27_code 48 = .ok (.aload_n 0, 1) := by decide +kernel
theorem dG_doAdds_49 : decode prog_1_method_27_code 49 = .ok (.getfield 36, 3) := by decide +kernel
theorem dG_doAdds_52 : decode prog_1_method_27_code 52 = .ok (.iload_n 2, 1) := by decide +kernel
theorem dG_doAdds_53 : decode prog_1_method_27_code 53 = .ok (.aaload, 1) := by decide +kernel
theorem dG_doAdds_54 : decode prog_1_method_27_code 54 = .ok (.getfield 230, 3) := by decide +kernel
theorem dG_doAdds_57 : decode prog_1_method_27_code 57 = .ok (.aaload, 1) := by decide +kernel
theorem dG_doAdds_58 : decode prog_1_method_27_code 58 = .ok (.aload_n 1, 1) := by decide +kernel
theorem dG_doAdds_59 : decode prog_1_method_27_code 59 = .ok (.invokevirtual 258, 3) := by decide +kernel
theorem dG_doAdds_62 : decode prog_1_method_27_code 62 = .ok (.iinc 2 1, 3) := by decide +kernel
theorem dG_doAdds_65 : decode prog_1_method_27_code 65 = .ok (.goto (-63), 3) := by decide +kernel
theorem dG_doAdds_68 : decode prog_1_method_27_code 68 = .ok (.return_, 1) := by decide +kernel
theorem dG_mayBeAdded_0 : decode prog_1_method_28_code 0 = .ok (.aload_n 1, 1) := by decide +kernel
theorem dG_mayBeAdded_1 : decode prog_1_method_28_code 1 = .ok (.getfield 262, 3) := by decide +kernel
theorem dG_mayBeAdded_4 : decode prog_1_method_28_code 4 = .ok (.iconst (-1), 1) := by decide +kernel
theorem dG_mayBeAdded_5 : decode prog_1_method_28_code 5 = .ok (.if_icmp .ne 34, 3) := by decide +kernel
theorem dG_mayBeAdded_8 : decode prog_1_method_28_code 8 = .ok (.aload_n 0, 1) := by decide +kernel
theorem dG_mayBeAdded_9 : decode prog_1_method_28_code 9 = .ok (.getfield 18, 3) := by decide +kernel
theorem dG_mayBeAdded_12 : decode prog_1_method_28_code 12 = .ok (.aload_n 1, 1) := by decide +kernel
theorem dG_mayBeAdded_13 : decode prog_1_method_28_code 13 = .ok (.getfield 263, 3) := by decide +kernel
theorem dG_mayBeAdded_16 : decode prog_1_method_28_code 16 = .ok (.aaload, 1) := by decide +kernel
theorem dG_mayBeAdded_17 : decode prog_1_method_28_code 17 = .ok (.getfield 161, 3) := by decide +kernel
theorem dG_mayBeAdded_20 : decode prog_1_method_28_code 20 = .ok (.iconst (-1), 1) := by decide +kernel
theorem dG_mayBeAdded_21 : decode prog_1_method_28_code 21 = .ok (.if_icmp .ne 18, 3) := by decide +kernel
theorem dG_mayBeAdded_24 : decode prog_1_method_28_code 24 = .ok (.aload_n 0, 1) := by decide +kernel
theorem dG_mayBeAdded_25 : decode prog_1_method_28_code 25 = .ok (.aload_n 1, 1) := by decide +kernel
theorem dG_mayBeAdded_26 : decode prog_1_method_28_code 26 = .ok (.getfield 263, 3) := by decide +kernel
theorem dG_mayBeAdded_29 : decode prog_1_method_28_code 29 = .ok (.invokevirtual 266, 3) := by decide +kernel
theorem dG_mayBeAdded_32 : decode prog_1_method_28_code 32 = .ok (.ifCond .ne 7, 3) := by decide +kernel
theorem dG_mayBeAdded_35 : decode prog_1_method_28_code 35 = .ok (.iconst 1, 1) := by decide +kernel
theorem dG_mayBeAdded_36 : decode prog_1_method_28_code 36 = .ok (.goto 4, 3) := by decide +kernel
theorem dG_mayBeAdded_39 : decode prog_1_method_28_code 39 = .ok (.iconst 0, 1) := by decide +kernel
theorem dG_mayBeAdded_40 : decode prog_1_method_28_code 40 = .ok (.ireturn, 1) := by decide +kernel
theorem dG_hasLeaf_0 : decode prog_1_method_29_code 0 = .ok (.iconst 0, 1) := by decide +kernel
theorem dG_hasLeaf_1 : decode prog_1_method_29_code 1 = .ok (.istore_n 2, 1) := by decide +kernel
theorem dG_hasLeaf_2 : decode prog_1_method_29_code 2 = .ok (.iload_n 2, 1) := by decide +kernel
theorem dG_hasLeaf_3 : decode prog_1_method_29_code 3 = .ok (.bipush 16, 2) := by decide +kernel
theorem dG_hasLeaf_5 : decode prog_1_method_29_code 5 = .ok (.if_icmp .ge 21, 3) := by decide +kernel
theorem dG_hasLeaf_8 : decode prog_1_method_29_code 8 = .ok (.aload_n 0, 1) := by decide +kernel
theorem dG_hasLeaf_9 : decode prog_1_method_29_code 9 = .ok (.getfield 40, 3) := by decide +kernel
theorem dG_hasLeaf_12 : decode prog_1_method_29_code 12 = .ok (.iload_n 2, 1) := by decide +kernel
theorem dG_hasLeaf_13 : decode prog_1_method_29_code 13 = .ok (.iaload, 1) := by decide +kernel
theorem dG_hasLeaf_14 : decode prog_1_method_29_code 14 = .ok (.iload_n 1, 1) := by decide +kernel
theorem dG_hasLeaf_15 : decode prog_1_method_29_code 15 = .ok (.if_icmp .ne 5, 3) := by decide +kernel
theorem dG_hasLeaf_18 : decode prog_1_method_29_code 18 = .ok (.iconst 1, 1) := by decide +kernel
theorem dG_hasLeaf_19 : decode prog_1_method_29_code 19 = .ok (.ireturn, 1) := by decide +kernel
theorem dG_hasLeaf_20 : decode prog_1_method_29_code 20 = .ok (.iinc 2 1, 3) := by decide +kernel
theorem dG_hasLeaf_23 : decode prog_1_method_29_code 23 = .ok (.goto (-21), 3) := by decide +kernel
theorem dG_hasLeaf_26 : decode prog_1_method_29_code 26 = .ok (.iconst 0, 1) := by decide +kernel
theorem dG_hasLeaf_27 : decode prog_1_method_29_code 27 = .ok (.ireturn, 1) := by decide +kernel
theorem dG_addBy_0 : decode prog_1_method_30_code 0 = .ok (.aload_n 2, 1) := by decide +kernel
theorem dG_addBy_1 : decode prog_1_method_30_code 1 = .ok (.getfield 60, 3) := by decide +kernel
theorem dG_addBy_4 : decode prog_1_method_30_code 4 = .ok (.invokevirtual 269, 3) := by decide +kernel
theorem dG_addBy_7 : decode prog_1_method_30_code 7 = .ok (.istore_n 3, 1) := by decide +kernel
theorem dG_addBy_8 : decode prog_1_method_30_code 8 = .ok (.iload_n 3, 1) := by decide +kernel
theorem dG_addBy_9 : decode prog_1_method_30_code 9 = .ok (.iconst (-1), 1) := by decide +kernel
theorem dG_addBy_10 : decode prog_1_method_30_code 10 = .ok (.if_icmp .ne 4, 3) := by decide +kernel
theorem dG_addBy_13 : decode prog_1_method_30_code 13 = .ok (.return_, 1) := by decide +kernel
theorem dG_addBy_14 : decode prog_1_method_30_code 14 = .ok (.aload_n 2, 1) := by decide +kernel
theorem dG_addBy_15 : decode prog_1_method_30_code 15 = .ok (.getfield 60, 3) := by decide +kernel
theorem dG_addBy_18 : decode prog_1_method_30_code 18 = .ok (.iload_n 3, 1) := by decide +kernel
theorem dG_addBy_19 : decode prog_1_method_30_code 19 = .ok (.invokestatic 233, 3) := by decide +kernel
theorem dG_addBy_22 : decode prog_1_method_30_code 22 = .ok (.aload_n 1, 1) := by decide +kernel
theorem dG_addBy_23 : decode prog_1_method_30_code 23 = .ok (.getfield 272, 3) := by decide +kernel
theorem dG_addBy_26 : decode prog_1_method_30_code 26 = .ok (.aload_n 2, 1) := by decide +kernel
theorem dG_addBy_27 : decode prog_1_method_30_code 27 = .ok (.getfield 158, 3) := by decide +kernel
theorem dG_addBy_30 : decode prog_1_method_30_code 30 = .ok (.invokevirtual 68, 3) := by decide +kernel
theorem dG_addBy_33 : decode prog_1_method_30_code 33 = .ok (.aload_n 2, 1) := by decide +kernel
theorem dG_addBy_34 : decode prog_1_method_30_code 34 = .ok (.getfield 60, 3) := by decide +kernel
theorem dG_addBy_37 : decode prog_1_method_30_code 37 = .ok (.iload_n 3, 1) := by decide +kernel
theorem dG_addBy_38 : decode prog_1_method_30_code 38 = .ok (.invokevirtual 275, 3) := by decide +kernel
theorem dG_addBy_41 : decode prog_1_method_30_code 41 = .ok (.aload_n 2, 1) := by decide +kernel
theorem dG_addBy_42 : decode prog_1_method_30_code 42 = .ok (.dup, 1) := by decide +kernel
theorem dG_addBy_43 : decode prog_1_method_30_code 43 = .ok (.getfield 138, 3) := by decide +kernel
theorem dG_addBy_46 : decode prog_1_method_30_code 46 = .ok (.iload_n 3, 1) := by decide +kernel
theorem dG_addBy_47 : decode prog_1_method_30_code 47 = .ok (.invokestatic 239, 3) := by decide +kernel
theorem dG_addBy_50 : decode prog_1_method_30_code 50 = .ok (.ior, 1) := by decide +kernel
theorem dG_addBy_51 : decode prog_1_method_30_code 51 = .ok (.putfield 138, 3) := by decide +kernel
theorem dG_addBy_54 : decode prog_1_method_30_code 54 = .ok (.aload_n 0, 1) := by decide +kernel
theorem dG_addBy_55 : decode prog_1_method_30_code 55 = .ok (.getfield 40, 3) := by decide +kernel
theorem dG_addBy_58 : decode prog_1_method_30_code 58 = .ok (.iload_n 3, 1) := by decide +kernel
theorem dG_addBy_59 : decode prog_1_method_30_code 59 = .ok (.aload_n 1, 1) := by decide +kernel
theorem dG_addBy_60 : decode prog_1_method_30_code 60 = .ok (.getfield 263, 3) := by decide +kernel
theorem dG_addBy_63 : decode prog_1_method_30_code 63 = .ok (.iastore, 1) := by decide +kernel
theorem dG_addBy_64 : decode prog_1_method_30_code 64 = .ok (.aload_n 1, 1) := by decide +kernel
theorem dG_addBy_65 : decode prog_1_method_30_code 65 = .ok (.aload_n 2, 1) := by decide +kernel
theorem dG_addBy_66 : decode prog_1_method_30_code 66 = .ok (.getfield 158, 3) := by decide +kernel
theorem dG_addBy_69 : decode prog_1_method_30_code 69 = .ok (.putfield 262, 3) := by decide +kernel
theorem dG_addBy_72 : decode prog_1_method_30_code 72 = .ok (.aload_n 1, 1) := by decide +kernel
theorem dG_addBy_73 : decode prog_1_method_30_code 73 = .ok (.iload_n 3, 1) := by decide +kernel
theorem dG_addBy_74 : decode prog_1_method_30_code 74 = .ok (.putfield 278, 3) := by decide +kernel
theorem dG_addBy_77 : decode prog_1_method_30_code 77 = .ok (.return_, 1) := by decide +kernel
theorem dG_makePath_0 : decode prog_1_method_31_code 0 = .ok (.aload_n 1, 1) := by decide +kernel
theorem dG_makePath_1 : decode prog_1_method_31_code 1 = .ok (.getfield 215, 3) := by decide +kernel
theorem dG_makePath_4 : decode prog_1_method_31_code 4 = .ok (.istore_n 2, 1) := by decide +kernel
theorem dG_makePath_5 : decode prog_1_method_31_code 5 = .ok (.aload_n 1, 1) := by decide +kernel
theorem dG_makePath_6 : decode prog_1_method_31_code 6 = .ok (.getfield 60, 3) := by decide +kernel
theorem dG_makePath_9 : decode prog_1_method_31_code 9 = .ok (.iload_n 2, 1) := by decide +kernel
theorem dG_makePath_10 : decode prog_1_method_31_code 10 = .ok (.invokestatic 233, 3) := by decide +kernel
theorem dG_makePath_13 : decode prog_1_method_31_code 13 = .ok (.aload_n 0, 1) := by decide +kernel
theorem dG_makePath_14 : decode prog_1_method_31_code 14 = .ok (.getfield 12, 3) := by decide +kernel
theorem dG_makePath_17 : decode prog_1_method_31_code 17 = .ok (.invokevirtual 64, 3) := by decide +kernel
theorem dG_makePath_20 : decode prog_1_method_31_code 20 = .ok (.aload_n 1, 1) := by decide +kernel
theorem dG_makePath_21 : decode prog_1_method_31_code 21 = .ok (.getfield 158, 3) := by decide +kernel
theorem dG_makePath_24 : decode prog_1_method_31_code 24 = .ok (.invokevirtual 68, 3) := by decide +kernel
theorem dG_makePath_27 : decode prog_1_method_31_code 27 = .ok (.iconst (-1), 1) := by decide +kernel
theorem dG_makePath_28 : decode prog_1_method_31_code 28 = .ok (.istore_n 3, 1) := by decide +kernel
theorem dG_makePath_29 : decode prog_1_method_31_code 29 = .ok (.iconst 1, 1) := by decide +kernel
theorem dG_makePath_30 : decode prog_1_method_31_code 30 = .ok (.istore 4, 2) := by decide +kernel
theorem dG_makePath_32 : decode prog_1_method_31_code 32 = .ok (.iload 4, 2) := by decide +kernel
theorem dG_makePath_34 : decode prog_1_method_31_code 34 = .ok (.aload_n 1, 1) := by decide +kernel
theorem dG_makePath_35 : decode prog_1_method_31_code 35 = .ok (.getfield 60, 3) := by decide +kernel
theorem dG_makePath_38 : decode prog_1_method_31_code 38 = .ok (.getfield 212, 3) := by decide +kernel
theorem dG_makePath_41 : decode prog_1_method_31_code 41 = .ok (.if_icmp .gt 146, 3) := by decide +kernel
theorem dG_makePath_44 : decode prog_1_method_31_code 44 = .ok (.iload_n 2, 1) := by decide +kernel
theorem dG_makePath_45 : decode prog_1_method_31_code 45 = .ok (.iload 4, 2) := by decide +kernel
theorem dG_makePath_47 : decode prog_1_method_31_code 47 = .ok (.invokestatic 279, 3) := by decide +kernel
theorem dG_makePath_50 : decode prog_1_method_31_code 50 = .ok (.istore 5, 2) := by decide +kernel
theorem dG_makePath_52 : decode prog_1_method_31_code 52 = .ok (.iload_n 2, 1) := by decide +kernel
theorem dG_makePath_53 : decode prog_1_method_31_code 53 = .ok (.iload 4, 2) := by decide +kernel
theorem dG_makePath_55 : decode prog_1_method_31_code 55 = .ok (.invokestatic 282, 3) := by decide +kernel
theorem dG_makePath_58 : decode prog_1_method_31_code 58 = .ok (.istore 6, 2) := by decide +kernel
theorem dG_makePath_60 : decode prog_1_method_31_code 60 = .ok (.aload_n 1, 1) := by decide +kernel
theorem dG_makePath_61 : decode prog_1_method_31_code 61 = .ok (.getfield 60, 3) := by decide +kernel
theorem dG_makePath_64 : decode prog_1_method_31_code 64 = .ok (.iload 6, 2) := by decide +kernel
theorem dG_makePath_66 : decode prog_1_method_31_code 66 = .ok (.iload 4, 2) := by decide +kernel
theorem dG_makePath_68 : decode prog_1_method_31_code 68 = .ok (.iconst 1, 1) := by decide +kernel
theorem dG_makePath_69 : decode prog_1_method_31_code 69 = .ok (.isub, 1) := by decide +kernel
theorem dG_makePath_70 : decode prog_1_method_31_code 70 = .ok (.invokevirtual 203, 3) := by decide +kernel
theorem dG_makePath_73 : decode prog_1_method_31_code 73 = .ok (.istore 7, 2) := by decide +kernel
theorem dG_makePath_75 : decode prog_1_method_31_code 75 = .ok (.iload 7, 2) := by decide +kernel
theorem dG_makePath_77 : decode prog_1_method_31_code 77 = .ok (.ifCond .ne 15, 3) := by decide +kernel
theorem dG_makePath_80 : decode prog_1_method_31_code 80 = .ok (.aload_n 1, 1) := by decide +kernel
theorem dG_makePath_81 : decode prog_1_method_31_code 81 = .ok (.getfield 60, 3) := by decide +kernel
theorem dG_makePath_84 : decode prog_1_method_31_code 84 = .ok (.iload 5, 2) := by decide +kernel
theorem dG_makePath_86 : decode prog_1_method_31_code 86 = .ok (.invokevirtual 285, 3) := by decide +kernel
theorem dG_makePath_89 : decode prog_1_method_31_code 89 = .ok (.goto 92, 3) := by decide +kernel
theorem dG_makePath_92 : decode prog_1_method_31_code 92 = .ok (.iload_n 3, 1) := by decide +kernel
theorem dG_makePath_93 : decode prog_1_method_31_code 93 = .ok (.iconst (-1), 1) := by decide +kernel
theorem dG_makePath_94 : decode prog_1_method_31_code 94 = .ok (.if_icmp .ne 13, 3) := by decide +kernel
theorem dG_makePath_97 : decode prog_1_method_31_code 97 = .ok (.aload_n 0, 1) := by decide +kernel
theorem dG_makePath_98 : decode prog_1_method_31_code 98 = .ok (.getfield 12, 3) := by decide +kernel
theorem dG_makePath_101 : decode prog_1_method_31_code 101 = .ok (.invokevirtual 64, 3) := by decide +kernel
theorem dG_makePath_104 : decode prog_1_method_31_code 104 = .ok (.goto 11, 3) := by decide +kernel
theorem dG_makePath_107 : decode prog_1_method_31_code 107 = .ok (.aload_n 0, 1) := by decide +kernel
theorem dG_makePath_108 : decode prog_1_method_31_code 108 = .ok (.getfield 12, 3) := by decide +kernel
theorem dG_makePath_111 : decode prog_1_method_31_code 111 = .ok (.iload_n 3, 1) := by decide +kernel
theorem dG_makePath_112 : decode prog_1_method_31_code 112 = .ok (.invokevirtual 288, 3) := by decide +kernel
theorem dG_makePath_115 : decode prog_1_method_31_code 115 = .ok (.istore_n 3, 1) := by decide +kernel
theorem dG_makePath_116 : decode prog_1_method_31_code 116 = .ok (.aload_n 0, 1) := by decide +kernel
theorem dG_makePath_117 : decode prog_1_method_31_code 117 = .ok (.aload_n 1, 1) := by decide +kernel
theorem dG_makePath_118 : decode prog_1_method_31_code 118 = .ok (.iload 7, 2) := by decide +kernel
theorem dG_makePath_120 : decode prog_1_method_31_code 120 = .ok (.aload_n 1, 1) := by decide +kernel
theorem dG_makePath_121 : decode prog_1_method_31_code 121 = .ok (.getfield 138, 3) := by decide +kernel
theorem dG_makePath_124 : decode prog_1_method_31_code 124 = .ok (.invokestatic 291, 3) := by decide +kernel
theorem dG_makePath_127 : decode prog_1_method_31_code 127 = .ok (.iconst (-1), 1) := by decide +kernel
theorem dG_makePath_128 : decode prog_1_method_31_code 128 = .ok (.ixor, 1) := by decide +kernel
theorem dG_makePath_129 : decode prog_1_method_31_code 129 = .ok (.iand, 1) := by decide +kernel
theorem dG_makePath_130 : decode prog_1_method_31_code 130 = .ok (.iload_n 3, 1) := by decide +kernel
theorem dG_makePath_131 : decode prog_1_method_31_code 131 = .ok (.invokevirtual 294, 3) := by decide +kernel
theorem dG_makePath_134 : decode prog_1_method_31_code 134 = .ok (.aload_n 0, 1) := by decide +kernel
theorem dG_makePath_135 : decode prog_1_method_31_code 135 = .ok (.aload_n 1, 1) := by decide +kernel
theorem dG_makePath_136 : decode prog_1_method_31_code 136 = .ok (.iload 6, 2) := by decide +kernel
theorem dG_makePath_138 : decode prog_1_method_31_code 138 = .ok (.iload 4, 2) := by decide +kernel
theorem dG_makePath_140 : decode prog_1_method_31_code 140 = .ok (.iconst 1, 1) := by decide +kernel
theorem dG_makePath_141 : decode prog_1_method_31_code 141 = .ok (.isub, 1) := by decide +kernel
theorem dG_makePath_142 : decode prog_1_method_31_code 142 = .ok (.iload_n 3, 1) := by decide +kernel
theorem dG_makePath_143 : decode prog_1_method_31_code 143 = .ok (.invokevirtual 298, 3) := by decide +kernel
theorem dG_makePath_146 : decode prog_1_method_31_code 146 = .ok (.aload_n 1, 1) := by decide +kernel
theorem dG_makePath_147 : decode prog_1_method_31_code 147 = .ok (.getfield 60, 3) := by decide +kernel
theorem dG_makePath_150 : decode prog_1_method_31_code 150 = .ok (.iload 5, 2) := by decide +kernel
theorem dG_makePath_152 : decode prog_1_method_31_code 152 = .ok (.aload_n 0, 1) := by decide +kernel
theorem dG_makePath_153 : decode prog_1_method_31_code 153 = .ok (.getfield 12, 3) := by decide +kernel
theorem dG_makePath_156 : decode prog_1_method_31_code 156 = .ok (.iload_n 3, 1) := by decide +kernel
theorem dG_makePath_157 : decode prog_1_method_31_code 157 = .ok (.invokevirtual 288, 3) := by decide +kernel
theorem dG_makePath_160 : decode prog_1_method_31_code 160 = .ok (.aload_n 1, 1) := by decide +kernel
theorem dG_makePath_161 : decode prog_1_method_31_code 161 = .ok (.getfield 158, 3) := by decide +kernel
theorem dG_makePath_164 : decode prog_1_method_31_code 164 = .ok (.invokevirtual 68, 3) := by decide +kernel
theorem dG_makePath_167 : decode prog_1_method_31_code 167 = .ok (.aload_n 1, 1) := by decide +kernel
theorem dG_makePath_168 : decode prog_1_method_31_code 168 = .ok (.dup, 1) := by decide +kernel
theorem dG_makePath_169 : decode prog_1_method_31_code 169 = .ok (.getfield 218, 3) := by decide +kernel
theorem dG_makePath_172 : decode prog_1_method_31_code 172 = .ok (.iload 5, 2) := by decide +kernel
theorem dG_makePath_174 : decode prog_1_method_31_code 174 = .ok (.invokestatic 239, 3) := by decide +kernel
theorem dG_makePath_177 : decode prog_1_method_31_code 177 = .ok (.ior, 1) := by decide +kernel
theorem dG_makePath_178 : decode prog_1_method_31_code 178 = .ok (.putfield 218, 3) := by decide +kernel
theorem dG_makePath_181 : decode prog_1_method_31_code 181 = .ok (.iinc 4 1, 3) := by decide +kernel
theorem dG_makePath_184 : decode prog_1_method_31_code 184 = .ok (.goto (-152), 3) := by decide +kernel
theorem dG_makePath_187 : decode prog_1_method_31_code 187 = .ok (.iload_n 3, 1) := by decide +kernel
theorem dG_makePath_188 : decode prog_1_method_31_code 188 = .ok (.iconst (-1), 1) := by decide +kernel
theorem dG_makePath_189 : decode prog_1_method_31_code 189 = .ok (.if_icmp .ne 13, 3) := by decide +kernel
theorem dG_makePath_192 : decode prog_1_method_31_code 192 = .ok (.aload_n 0, 1) := by decide +kernel
theorem dG_makePath_193 : decode prog_1_method_31_code 193 = .ok (.getfield 12, 3) := by decide +kernel
theorem dG_makePath_196 : decode prog_1_method_31_code 196 = .ok (.invokevirtual 64, 3) := by decide +kernel
theorem dG_makePath_199 : decode prog_1_method_31_code 199 = .ok (.goto 11, 3) := by decide +kernel
theorem dG_makePath_202 : decode prog_1_method_31_code 202 = .ok (.aload_n 0, 1) := by decide +kernel
theorem dG_makePath_203 : decode prog_1_method_31_code 203 = .ok (.getfield 12, 3) := by decide +kernel
theorem dG_makePath_206 : decode prog_1_method_31_code 206 = .ok (.iload_n 3, 1) := by decide +kernel
theorem dG_makePath_207 : decode prog_1_method_31_code 207 = .ok (.invokevirtual 288, 3) := by decide +kernel
theorem dG_makePath_210 : decode prog_1_method_31_code 210 = .ok (.ireturn, 1) := by decide +kernel
theorem dG_sideNode_0 : decode prog_1_method_42_code 0 = .ok (.iload_n 0, 1) := by decide +kernel
theorem dG_sideNode_1 : decode prog_1_method_42_code 1 = .ok (.iconst 1, 1) := by decide +kernel
theorem dG_sideNode_2 : decode prog_1_method_42_code 2 = .ok (.iload_n 1, 1) := by decide +kernel
theorem dG_sideNode_3 : decode prog_1_method_42_code 3 = .ok (.iconst 1, 1) := by decide +kernel
theorem dG_sideNode_4 : decode prog_1_method_42_code 4 = .ok (.isub, 1) := by decide +kernel
theorem dG_sideNode_5 : decode prog_1_method_42_code 5 = .ok (.ishl, 1) := by decide +kernel
theorem dG_sideNode_6 : decode prog_1_method_42_code 6 = .ok (.ixor, 1) := by decide +kernel
theorem dG_sideNode_7 : decode prog_1_method_42_code 7 = .ok (.iload_n 1, 1) := by decide +kernel
theorem dG_sideNode_8 : decode prog_1_method_42_code 8 = .ok (.iconst 1, 1) := by decide +kernel
theorem dG_sideNode_9 : decode prog_1_method_42_code 9 = .ok (.isub, 1) := by decide +kernel
theorem dG_sideNode_10 : decode prog_1_method_42_code 10 = .ok (.invokestatic 279, 3) := by decide +kernel
theorem dG_sideNode_13 : decode prog_1_method_42_code 13 = .ok (.ireturn, 1) := by decide +kernel
theorem dG_sendToNodes_0 : decode prog_1_method_32_code 0 = .ok (.iconst 0, 1) := by decide +kernel
theorem dG_sendToNodes_1 : decode prog_1_method_32_code 1 = .ok (.istore 4, 2) := by decide +kernel
theorem dG_sendToNodes_3 : decode prog_1_method_32_code 3 = .ok (.iload 4, 2) := by decide +kernel
theorem dG_sendToNodes_5 : decode prog_1_method_32_code 5 = .ok (.bipush 31, 2) := by decide +kernel
theorem dG_sendToNodes_7 : decode prog_1_method_32_code 7 = .ok (.if_icmp .ge 34, 3) := by decide +kernel
theorem dG_sendToNodes_10 : decode prog_1_method_32_code 10 = .ok (.iload_n 2, 1) := by decide +kernel
theorem dG_sendToNodes_11 : decode prog_1_method_32_code 11 = .ok (.iload 4, 2) := by decide +kernel
theorem dG_sendToNodes_13 : decode prog_1_method_32_code 13 = .ok (.invokestatic 239, 3) := by decide +kernel
theorem dG_sendToNodes_16 : decode prog_1_method_32_code 16 = .ok (.iand, 1) := by decide +kernel
theorem dG_sendToNodes_17 : decode prog_1_method_32_code 17 = .ok (.ifCond .eq 18, 3) := by decide +kernel
theorem dG_sendToNodes_20 : decode prog_1_method_32_code 20 = .ok (.aload_n 0, 1) := by decide +kernel
theorem dG_sendToNodes_21 : decode prog_1_method_32_code 21 = .ok (.aload_n 1, 1) := by decide +kernel
theorem dG_sendToNodes_22 : decode prog_1_method_32_code 22 = .ok (.aload_n 1, 1) := by decide +kernel
theorem dG_sendToNodes_23 : decode prog_1_method_32_code 23 = .ok (.getfield 60, 3) := by decide +kernel
theorem dG_sendToNodes_26 : decode prog_1_method_32_code 26 = .ok (.iload 4, 2) := by decide +kernel
theorem dG_sendToNodes_28 : decode prog_1_method_32_code 28 = .ok (.invokevirtual 187, 3) := by decide +kernel
theorem dG_sendToNodes_31 : decode prog_1_method_32_code 31 = .ok (.iload_n 3, 1) := by decide +kernel
theorem dG_sendToNodes_32 : decode prog_1_method_32_code 32 = .ok (.invokevirtual 302, 3) := by decide +kernel
theorem dG_sendToNodes_35 : decode prog_1_method_32_code 35 = .ok (.iinc 4 1, 3) := by decide +kernel
theorem dG_sendToNodes_38 : decode prog_1_method_32_code 38 = .ok (.goto (-35), 3) := by decide +kernel
theorem dG_sendToNodes_41 : decode prog_1_method_32_code 41 = .ok (.return_, 1) := by decide +kernel
theorem dG_encrypt_0 : decode prog_1_method_35_code 0 = .ok (.aload_n 0, 1) := by decide +kernel
theorem dG_encrypt_1 : decode prog_1_method_35_code 1 = .ok (.getfield 12, 3) := by decide +kernel
theorem dG_encrypt_4 : decode prog_1_method_35_code 4 = .ok (.iload_n 2, 1) := by decide +kernel
theorem dG_encrypt_5 : decode prog_1_method_35_code 5 = .ok (.iconst (-1), 1) := by decide +kernel
theorem dG_encrypt_6 : decode prog_1_method_35_code 6 = .ok (.iload_n 3, 1) := by decide +kernel
theorem dG_encrypt_7 : decode prog_1_method_35_code 7 = .ok (.invokevirtual 311, 3) := by decide +kernel
theorem dG_encrypt_10 : decode prog_1_method_35_code 10 = .ok (.aload_n 1, 1) := by decide +kernel
theorem dG_encrypt_11 : decode prog_1_method_35_code 11 = .ok (.dup, 1) := by decide +kernel
theorem dG_encrypt_12 : decode prog_1_method_35_code 12 = .ok (.getfield 221, 3) := by decide +kernel
theorem dG_encrypt_15 : decode prog_1_method_35_code 15 = .ok (.iconst 1, 1) := by decide +kernel
theorem dG_encrypt_16 : decode prog_1_method_35_code 16 = .ok (.iadd, 1) := by decide +kernel
theorem dG_encrypt_17 : decode prog_1_method_35_code 17 = .ok (.putfield 221, 3) := by decide +kernel
theorem dG_encrypt_20 : decode prog_1_method_35_code 20 = .ok (.return_, 1) := by decide +kernel
theorem dG_sendToAdded_0 : decode prog_1_method_33_code 0 = .ok (.iconst 0, 1) := by decide +kernel
theorem dG_sendToAdded_1 : decode prog_1_method_33_code 1 = .ok (.istore 5, 2) := by decide +kernel
theorem dG_sendToAdded_3 : decode prog_1_method_33_code 3 = .ok (.iload 5, 2) := by decide +kernel
theorem dG_sendToAdded_5 : decode prog_1_method_33_code 5 = .ok (.aload_n 0, 1) := by decide +kernel
theorem dG_sendToAdded_6 : decode prog_1_method_33_code 6 = .ok (.getfield 90, 3) := by decide +kernel
theorem dG_sendToAdded_9 : decode prog_1_method_33_code 9 = .ok (.if_icmp .ge 61, 3) := by decide +kernel
theorem dG_sendToAdded_12 : decode prog_1_method_33_code 12 = .ok (.aload_n 0, 1) := by decide +kernel
theorem dG_sendToAdded_13 : decode prog_1_method_33_code 13 = .ok (.getfield 30, 3) := by decide +kernel
theorem dG_sendToAdded_16 : decode prog_1_method_33_code 16 = .ok (.iload 5, 2) := by decide +kernel
theorem dG_sendToAdded_18 : decode prog_1_method_33_code 18 = .ok (.aaload, 1) := by decide +kernel
theorem dG_sendToAdded_19 : decode prog_1_method_33_code 19 = .ok (.getfield 262, 3) := by decide +kernel
theorem dG_sendToAdded_22 : decode prog_1_method_33_code 22 = .ok (.aload_n 1, 1) := by decide +kernel
theorem dG_sendToAdded_23 : decode prog_1_method_33_code 23 = .ok (.getfield 158, 3) := by decide +kernel
theorem dG_sendToAdded_26 : decode prog_1_method_33_code 26 = .ok (.if_icmp .ne 38, 3) := by decide +kernel
theorem dG_sendToAdded_29 : decode prog_1_method_33_code 29 = .ok (.aload_n 0, 1) := by decide +kernel
theorem dG_sendToAdded_30 : decode prog_1_method_33_code 30 = .ok (.getfield 30, 3) := by decide +kernel
theorem dG_sendToAdded_33 : decode prog_1_method_33_code 33 = .ok (.iload 5, 2) := by decide +kernel
theorem dG_sendToAdded_35 : decode prog_1_method_33_code 35 = .ok (.aaload, 1) := by decide +kernel
theorem dG_sendToAdded_36 : decode prog_1_method_33_code 36 = .ok (.getfield 278, 3) := by decide +kernel
theorem dG_sendToAdded_39 : decode prog_1_method_33_code 39 = .ok (.iload_n 3, 1) := by decide +kernel
theorem dG_sendToAdded_40 : decode prog_1_method_33_code 40 = .ok (.invokestatic 279, 3) := by decide +kernel
theorem dG_sendToAdded_43 : decode prog_1_method_33_code 43 = .ok (.iload_n 2, 1) := by decide +kernel
theorem dG_sendToAdded_44 : decode prog_1_method_33_code 44 = .ok (.if_icmp .ne 20, 3) := by decide +kernel
theorem dG_sendToAdded_47 : decode prog_1_method_33_code 47 = .ok (.aload_n 0, 1) := by decide +kernel
theorem dG_sendToAdded_48 : decode prog_1_method_33_code 48 = .ok (.aload_n 1, 1) := by decide +kernel
theorem dG_sendToAdded_49 : decode prog_1_method_33_code 49 = .ok (.aload_n 0, 1) := by decide +kernel
theorem dG_sendToAdded_50 : decode prog_1_method_33_code 50 = .ok (.getfield 30, 3) := by decide +kernel
theorem dG_sendToAdded_53 : decode prog_1_method_33_code 53 = .ok (.iload 5, 2) := by decide +kernel
theorem dG_sendToAdded_55 : decode prog_1_method_33_code 55 = .ok (.aaload, 1) := by decide +kernel
theorem dG_sendToAdded_56 : decode prog_1_method_33_code 56 = .ok (.getfield 305, 3) := by decide +kernel
theorem dG_sendToAdded_59 : decode prog_1_method_33_code 59 = .ok (.iload 4, 2) := by decide +kernel
theorem dG_sendToAdded_61 : decode prog_1_method_33_code 61 = .ok (.invokevirtual 302, 3) := by decide +kernel
theorem dG_sendToAdded_64 : decode prog_1_method_33_code 64 = .ok (.iinc 5 1, 3) := by decide +kernel
theorem dG_sendToAdded_67 : decode prog_1_method_33_code 67 = .ok (.goto (-64), 3) := by decide +kernel
theorem dG_sendToAdded_70 : decode prog_1_method_33_code 70 = .ok (.return_, 1) := by decide +kernel
theorem dG_openEpoch_0 : decode prog_1_method_34_code 0 = .ok (.aload_n 0, 1) := by decide +kernel
theorem dG_openEpoch_1 : decode prog_1_method_34_code 1 = .ok (.getfield 12, 3) := by decide +kernel
theorem dG_openEpoch_4 : decode prog_1_method_34_code 4 = .ok (.aload_n 0, 1) := by decide +kernel
theorem dG_openEpoch_5 : decode prog_1_method_34_code 5 = .ok (.getfield 12, 3) := by decide +kernel
theorem dG_openEpoch_8 : decode prog_1_method_34_code 8 = .ok (.aload_n 1, 1) := by decide +kernel
theorem dG_openEpoch_9 : decode prog_1_method_34_code 9 = .ok (.getfield 72, 3) := by decide +kernel
theorem dG_openEpoch_12 : decode prog_1_method_34_code 12 = .ok (.invokevirtual 288, 3) := by decide +kernel
theorem dG_openEpoch_15 : decode prog_1_method_34_code 15 = .ok (.iload_n 3, 1) := by decide +kernel
theorem dG_openEpoch_16 : decode prog_1_method_34_code 16 = .ok (.invokevirtual 308, 3) := by decide +kernel
theorem dG_openEpoch_19 : decode prog_1_method_34_code 19 = .ok (.istore 4, 2) := by decide +kernel
theorem dG_openEpoch_21 : decode prog_1_method_34_code 21 = .ok (.iconst 0, 1) := by decide +kernel
theorem dG_openEpoch_22 : decode prog_1_method_34_code 22 = .ok (.istore 5, 2) := by decide +kernel
theorem dG_openEpoch_24 : decode prog_1_method_34_code 24 = .ok (.iload 5, 2) := by decide +kernel
theorem dG_openEpoch_26 : decode prog_1_method_34_code 26 = .ok (.aload_n 0, 1) := by decide +kernel
theorem dG_openEpoch_27 : decode prog_1_method_34_code 27 = .ok (.getfield 90, 3) := by decide +kernel
theorem dG_openEpoch_30 : decode prog_1_method_34_code 30 = .ok (.if_icmp .ge 43, 3) := by decide +kernel
theorem dG_openEpoch_33 : decode prog_1_method_34_code 33 = .ok (.aload_n 0, 1) := by decide +kernel
theorem dG_openEpoch_34 : decode prog_1_method_34_code 34 = .ok (.getfield 30, 3) := by decide +kernel
theorem dG_openEpoch_37 : decode prog_1_method_34_code 37 = .ok (.iload 5, 2) := by decide +kernel
theorem dG_openEpoch_39 : decode prog_1_method_34_code 39 = .ok (.aaload, 1) := by decide +kernel
theorem dG_openEpoch_40 : decode prog_1_method_34_code 40 = .ok (.getfield 262, 3) := by decide +kernel
theorem dG_openEpoch_43 : decode prog_1_method_34_code 43 = .ok (.aload_n 2, 1) := by decide +kernel
theorem dG_openEpoch_44 : decode prog_1_method_34_code 44 = .ok (.getfield 158, 3) := by decide +kernel
theorem dG_openEpoch_47 : decode prog_1_method_34_code 47 = .ok (.if_icmp .ne 20, 3) := by decide +kernel
theorem dG_openEpoch_50 : decode prog_1_method_34_code 50 = .ok (.aload_n 0, 1) := by decide +kernel
theorem dG_openEpoch_51 : decode prog_1_method_34_code 51 = .ok (.aload_n 2, 1) := by decide +kernel
theorem dG_openEpoch_52 : decode prog_1_method_34_code 52 = .ok (.aload_n 0, 1) := by decide +kernel
theorem dG_openEpoch_53 : decode prog_1_method_34_code 53 = .ok (.getfield 30, 3) := by decide +kernel
theorem dG_openEpoch_56 : decode prog_1_method_34_code 56 = .ok (.iload 5, 2) := by decide +kernel
theorem dG_openEpoch_58 : decode prog_1_method_34_code 58 = .ok (.aaload, 1) := by decide +kernel
theorem dG_openEpoch_59 : decode prog_1_method_34_code 59 = .ok (.getfield 305, 3) := by decide +kernel
theorem dG_openEpoch_62 : decode prog_1_method_34_code 62 = .ok (.iload 4, 2) := by decide +kernel
theorem dG_openEpoch_64 : decode prog_1_method_34_code 64 = .ok (.invokevirtual 302, 3) := by decide +kernel
theorem dG_openEpoch_67 : decode prog_1_method_34_code 67 = .ok (.iinc 5 1, 3) := by decide +kernel
theorem dG_openEpoch_70 : decode prog_1_method_34_code 70 = .ok (.goto (-46), 3) := by decide +kernel
theorem dG_openEpoch_73 : decode prog_1_method_34_code 73 = .ok (.aload_n 2, 1) := by decide +kernel
theorem dG_openEpoch_74 : decode prog_1_method_34_code 74 = .ok (.aload_n 0, 1) := by decide +kernel
theorem dG_openEpoch_75 : decode prog_1_method_34_code 75 = .ok (.getfield 12, 3) := by decide +kernel
theorem dG_openEpoch_78 : decode prog_1_method_34_code 78 = .ok (.iload 4, 2) := by decide +kernel
theorem dG_openEpoch_80 : decode prog_1_method_34_code 80 = .ok (.invokevirtual 288, 3) := by decide +kernel
theorem dG_openEpoch_83 : decode prog_1_method_34_code 83 = .ok (.putfield 72, 3) := by decide +kernel
theorem dG_openEpoch_86 : decode prog_1_method_34_code 86 = .ok (.aload_n 0, 1) := by decide +kernel
theorem dG_openEpoch_87 : decode prog_1_method_34_code 87 = .ok (.getfield 24, 3) := by decide +kernel
theorem dG_openEpoch_90 : decode prog_1_method_34_code 90 = .ok (.aload_n 0, 1) := by decide +kernel
theorem dG_openEpoch_91 : decode prog_1_method_34_code 91 = .ok (.getfield 76, 3) := by decide +kernel
theorem dG_openEpoch_94 : decode prog_1_method_34_code 94 = .ok (.aload_n 2, 1) := by decide +kernel
theorem dG_openEpoch_95 : decode prog_1_method_34_code 95 = .ok (.aastore, 1) := by decide +kernel
theorem dG_openEpoch_96 : decode prog_1_method_34_code 96 = .ok (.aload_n 0, 1) := by decide +kernel
theorem dG_openEpoch_97 : decode prog_1_method_34_code 97 = .ok (.dup, 1) := by decide +kernel
theorem dG_openEpoch_98 : decode prog_1_method_34_code 98 = .ok (.getfield 76, 3) := by decide +kernel
theorem dG_openEpoch_101 : decode prog_1_method_34_code 101 = .ok (.iconst 1, 1) := by decide +kernel
theorem dG_openEpoch_102 : decode prog_1_method_34_code 102 = .ok (.iadd, 1) := by decide +kernel
theorem dG_openEpoch_103 : decode prog_1_method_34_code 103 = .ok (.putfield 76, 3) := by decide +kernel
theorem dG_openEpoch_106 : decode prog_1_method_34_code 106 = .ok (.return_, 1) := by decide +kernel
theorem dG_come_0 : decode prog_1_method_7_code 0 = .ok (.iload_n 1, 1) := by decide +kernel
theorem dG_come_1 : decode prog_1_method_7_code 1 = .ok (.invokestatic 83, 3) := by decide +kernel
theorem dG_come_4 : decode prog_1_method_7_code 4 = .ok (.ifCond .ne 11, 3) := by decide +kernel
theorem dG_come_7 : decode prog_1_method_7_code 7 = .ok (.new 87, 3) := by decide +kernel
theorem dG_come_10 : decode prog_1_method_7_code 10 = .ok (.dup, 1) := by decide +kernel
theorem dG_come_11 : decode prog_1_method_7_code 11 = .ok (.invokespecial 89, 3) := by decide +kernel
theorem dG_come_14 : decode prog_1_method_7_code 14 = .ok (.athrow, 1) := by decide +kernel
theorem dG_come_15 : decode prog_1_method_7_code 15 = .ok (.aload_n 0, 1) := by decide +kernel
theorem dG_come_16 : decode prog_1_method_7_code 16 = .ok (.getfield 18, 3) := by decide +kernel
theorem dG_come_19 : decode prog_1_method_7_code 19 = .ok (.iload_n 1, 1) := by decide +kernel
theorem dG_come_20 : decode prog_1_method_7_code 20 = .ok (.aaload, 1) := by decide +kernel
theorem dG_come_21 : decode prog_1_method_7_code 21 = .ok (.astore_n 2, 1) := by decide +kernel
theorem dG_come_22 : decode prog_1_method_7_code 22 = .ok (.aload_n 2, 1) := by decide +kernel
theorem dG_come_23 : decode prog_1_method_7_code 23 = .ok (.getfield 161, 3) := by decide +kernel
theorem dG_come_26 : decode prog_1_method_7_code 26 = .ok (.iconst (-1), 1) := by decide +kernel
theorem dG_come_27 : decode prog_1_method_7_code 27 = .ok (.if_icmp .eq 44, 3) := by decide +kernel
theorem dG_come_30 : decode prog_1_method_7_code 30 = .ok (.aload_n 2, 1) := by decide +kernel
theorem dG_come_31 : decode prog_1_method_7_code 31 = .ok (.getfield 161, 3) := by decide +kernel
theorem dG_come_34 : decode prog_1_method_7_code 34 = .ok (.aload_n 0, 1) := by decide +kernel
theorem dG_come_35 : decode prog_1_method_7_code 35 = .ok (.getfield 76, 3) := by decide +kernel
theorem dG_come_38 : decode prog_1_method_7_code 38 = .ok (.iconst 1, 1) := by decide +kernel
theorem dG_come_39 : decode prog_1_method_7_code 39 = .ok (.isub, 1) := by decide +kernel
theorem dG_come_40 : decode prog_1_method_7_code 40 = .ok (.if_icmp .lt 11, 3) := by decide +kernel
theorem dG_come_43 : decode prog_1_method_7_code 43 = .ok (.new 93, 3) := by decide +kernel
theorem dG_come_46 : decode prog_1_method_7_code 46 = .ok (.dup, 1) := by decide +kernel
theorem dG_come_47 : decode prog_1_method_7_code 47 = .ok (.invokespecial 95, 3) := by decide +kernel
theorem dG_come_50 : decode prog_1_method_7_code 50 = .ok (.athrow, 1) := by decide +kernel
theorem dG_come_51 : decode prog_1_method_7_code 51 = .ok (.aload_n 2, 1) := by decide +kernel
theorem dG_come_52 : decode prog_1_method_7_code 52 = .ok (.aload_n 0, 1) := by decide +kernel
theorem dG_come_53 : decode prog_1_method_7_code 53 = .ok (.getfield 24, 3) := by decide +kernel
theorem dG_come_56 : decode prog_1_method_7_code 56 = .ok (.aload_n 2, 1) := by decide +kernel
theorem dG_come_57 : decode prog_1_method_7_code 57 = .ok (.getfield 161, 3) := by decide +kernel
theorem dG_come_60 : decode prog_1_method_7_code 60 = .ok (.iconst 1, 1) := by decide +kernel
theorem dG_come_61 : decode prog_1_method_7_code 61 = .ok (.iadd, 1) := by decide +kernel
theorem dG_come_62 : decode prog_1_method_7_code 62 = .ok (.aaload, 1) := by decide +kernel
theorem dG_come_63 : decode prog_1_method_7_code 63 = .ok (.invokevirtual 164, 3) := by decide +kernel
theorem dG_come_66 : decode prog_1_method_7_code 66 = .ok (.aload_n 2, 1) := by decide +kernel
theorem dG_come_67 : decode prog_1_method_7_code 67 = .ok (.getfield 161, 3) := by decide +kernel
theorem dG_come_70 : decode prog_1_method_7_code 70 = .ok (.ireturn, 1) := by decide +kernel
theorem dG_come_71 : decode prog_1_method_7_code 71 = .ok (.aload_n 0, 1) := by decide +kernel
theorem dG_come_72 : decode prog_1_method_7_code 72 = .ok (.iload_n 1, 1) := by decide +kernel
theorem dG_come_73 : decode prog_1_method_7_code 73 = .ok (.invokevirtual 167, 3) := by decide +kernel
theorem dG_come_76 : decode prog_1_method_7_code 76 = .ok (.istore_n 3, 1) := by decide +kernel
theorem dG_come_77 : decode prog_1_method_7_code 77 = .ok (.iload_n 3, 1) := by decide +kernel
theorem dG_come_78 : decode prog_1_method_7_code 78 = .ok (.iconst (-1), 1) := by decide +kernel
theorem dG_come_79 : decode prog_1_method_7_code 79 = .ok (.if_icmp .ne 11, 3) := by decide +kernel
theorem dG_come_82 : decode prog_1_method_7_code 82 = .ok (.new 93, 3) := by decide +kernel
theorem dG_come_85 : decode prog_1_method_7_code 85 = .ok (.dup, 1) := by decide +kernel
theorem dG_come_86 : decode prog_1_method_7_code 86 = .ok (.invokespecial 95, 3) := by decide +kernel
theorem dG_come_89 : decode prog_1_method_7_code 89 = .ok (.athrow, 1) := by decide +kernel
theorem dG_come_90 : decode prog_1_method_7_code 90 = .ok (.aload_n 0, 1) := by decide +kernel
theorem dG_come_91 : decode prog_1_method_7_code 91 = .ok (.aload_n 2, 1) := by decide +kernel
theorem dG_come_92 : decode prog_1_method_7_code 92 = .ok (.aload_n 0, 1) := by decide +kernel
theorem dG_come_93 : decode prog_1_method_7_code 93 = .ok (.getfield 30, 3) := by decide +kernel
theorem dG_come_96 : decode prog_1_method_7_code 96 = .ok (.iload_n 3, 1) := by decide +kernel
theorem dG_come_97 : decode prog_1_method_7_code 97 = .ok (.aaload, 1) := by decide +kernel
theorem dG_come_98 : decode prog_1_method_7_code 98 = .ok (.invokevirtual 171, 3) := by decide +kernel
theorem dG_come_101 : decode prog_1_method_7_code 101 = .ok (.aload_n 2, 1) := by decide +kernel
theorem dG_come_102 : decode prog_1_method_7_code 102 = .ok (.getfield 161, 3) := by decide +kernel
theorem dG_come_105 : decode prog_1_method_7_code 105 = .ok (.ireturn, 1) := by decide +kernel
theorem dG_earliestWelcome_0 : decode prog_1_method_36_code 0 = .ok (.iconst (-1), 1) := by decide +kernel
theorem dG_earliestWelcome_1 : decode prog_1_method_36_code 1 = .ok (.istore_n 2, 1) := by decide +kernel
theorem dG_earliestWelcome_2 : decode prog_1_method_36_code 2 = .ok (.iconst 0, 1) := by decide +kernel
theorem dG_earliestWelcome_3 : decode prog_1_method_36_code 3 = .ok (.istore_n 3, 1) := by decide +kernel
theorem dG_earliestWelcome_4 : decode prog_1_method_36_code 4 = .ok (.iload_n 3, 1) := by decide +kernel
theorem dG_earliestWelcome_5 : decode prog_1_method_36_code 5 = .ok (.aload_n 0, 1) := by decide +kernel
theorem dG_earliestWelcome_6 : decode prog_1_method_36_code 6 = .ok (.getfield 90, 3) := by decide +kernel
theorem dG_earliestWelcome_9 : decode prog_1_method_36_code 9 = .ok (.if_icmp .ge 67, 3) := by decide +kernel
theorem dG_earliestWelcome_12 : decode prog_1_method_36_code 12 = .ok (.aload_n 0, 1) := by decide +kernel
theorem dG_earliestWelcome_13 : decode prog_1_method_36_code 13 = .ok (.getfield 30, 3) := by decide +kernel
theorem dG_earliestWelcome_16 : decode prog_1_method_36_code 16 = .ok (.iload_n 3, 1) := by decide +kernel
theorem dG_earliestWelcome_17 : decode prog_1_method_36_code 17 = .ok (.aaload, 1) := by decide +kernel
theorem dG_earliestWelcome_18 : decode prog_1_method_36_code 18 = .ok (.astore 4, 2) := by decide +kernel
theorem dG_earliestWelcome_20 : decode prog_1_method_36_code 20 = .ok (.aload 4, 2) := by decide +kernel
theorem dG_earliestWelcome_22 : decode prog_1_method_36_code 22 = .ok (.getfield 263, 3) := by decide +kernel
theorem dG_earliestWelcome_25 : decode prog_1_method_36_code 25 = .ok (.iload_n 1, 1) := by decide +kernel
theorem dG_earliestWelcome_26 : decode prog_1_method_36_code 26 = .ok (.if_icmp .ne 44, 3) := by decide +kernel
theorem dG_earliestWelcome_29 : decode prog_1_method_36_code 29 = .ok (.aload 4, 2) := by decide +kernel
theorem dG_earliestWelcome_31 : decode prog_1_method_36_code 31 = .ok (.getfield 314, 3) := by decide +kernel
theorem dG_earliestWelcome_34 : decode prog_1_method_36_code 34 = .ok (.ifCond .ne 36, 3) := by decide +kernel
theorem dG_earliestWelcome_37 : decode prog_1_method_36_code 37 = .ok (.aload 4, 2) := by decide +kernel
theorem dG_earliestWelcome_39 : decode prog_1_method_36_code 39 = .ok (.getfield 262, 3) := by decide +kernel
theorem dG_earliestWelcome_42 : decode prog_1_method_36_code 42 = .ok (.iconst (-1), 1) := by decide +kernel
theorem dG_earliestWelcome_43 : decode prog_1_method_36_code 43 = .ok (.if_icmp .eq 27, 3) := by decide +kernel
theorem dG_earliestWelcome_46 : decode prog_1_method_36_code 46 = .ok (.iload_n 2, 1) := by decide +kernel
theorem dG_earliestWelcome_47 : decode prog_1_method_36_code 47 = .ok (.iconst (-1), 1) := by decide +kernel
theorem dG_earliestWelcome_48 : decode prog_1_method_36_code 48 = .ok (.if_icmp .eq 20, 3) := by decide +kernel
theorem dG_earliestWelcome_51 : decode prog_1_method_36_code 51 = .ok (.aload 4, 2) := by decide +kernel
theorem dG_earliestWelcome_53 : decode prog_1_method_36_code 53 = .ok (.getfield 262, 3) := by decide +kernel
theorem dG_earliestWelcome_56 : decode prog_1_method_36_code 56 = .ok (.aload_n 0, 1) := by decide +kernel
theorem dG_earliestWelcome_57 : decode prog_1_method_36_code 57 = .ok (.getfield 30, 3) := by decide +kernel
theorem dG_earliestWelcome_60 : decode prog_1_method_36_code 60 = .ok (.iload_n 2, 1) := by decide +kernel
theorem dG_earliestWelcome_61 : decode prog_1_method_36_code 61 = .ok (.aaload, 1) := by decide +kernel
theorem dG_earliestWelcome_62 : decode prog_1_method_36_code 62 = .ok (.getfield 262, 3) := by decide +kernel
theorem dG_earliestWelcome_65 : decode prog_1_method_36_code 65 = .ok (.if_icmp .ge 5, 3) := by decide +kernel
theorem dG_earliestWelcome_68 : decode prog_1_method_36_code 68 = .ok (.iload_n 3, 1) := by decide +kernel
theorem dG_earliestWelcome_69 : decode prog_1_method_36_code 69 = .ok (.istore_n 2, 1) := by decide +kernel
theorem dG_earliestWelcome_70 : decode prog_1_method_36_code 70 = .ok (.iinc 3 1, 3) := by decide +kernel
theorem dG_earliestWelcome_73 : decode prog_1_method_36_code 73 = .ok (.goto (-69), 3) := by decide +kernel
theorem dG_earliestWelcome_76 : decode prog_1_method_36_code 76 = .ok (.iload_n 2, 1) := by decide +kernel
theorem dG_earliestWelcome_77 : decode prog_1_method_36_code 77 = .ok (.ireturn, 1) := by decide +kernel
theorem dG_joinBy_0 : decode prog_1_method_37_code 0 = .ok (.aload_n 0, 1) := by decide +kernel
theorem dG_joinBy_1 : decode prog_1_method_37_code 1 = .ok (.aload_n 2, 1) := by decide +kernel
theorem dG_joinBy_2 : decode prog_1_method_37_code 2 = .ok (.getfield 262, 3) := by decide +kernel
theorem dG_joinBy_5 : decode prog_1_method_37_code 5 = .ok (.invokevirtual 184, 3) := by decide +kernel
theorem dG_joinBy_8 : decode prog_1_method_37_code 8 = .ok (.ifCond .ne 4, 3) := by decide +kernel
theorem dG_joinBy_11 : decode prog_1_method_37_code 11 = .ok (.return_, 1) := by decide +kernel
theorem dG_joinBy_12 : decode prog_1_method_37_code 12 = .ok (.aload_n 0, 1) := by decide +kernel
theorem dG_joinBy_13 : decode prog_1_method_37_code 13 = .ok (.getfield 24, 3) := by decide +kernel
theorem dG_joinBy_16 : decode prog_1_method_37_code 16 = .ok (.aload_n 2, 1) := by decide +kernel
theorem dG_joinBy_17 : decode prog_1_method_37_code 17 = .ok (.getfield 262, 3) := by decide +kernel
theorem dG_joinBy_20 : decode prog_1_method_37_code 20 = .ok (.aaload, 1) := by decide +kernel
theorem dG_joinBy_21 : decode prog_1_method_37_code 21 = .ok (.astore_n 3, 1) := by decide +kernel
theorem dG_joinBy_22 : decode prog_1_method_37_code 22 = .ok (.aload_n 2, 1) := by decide +kernel
theorem dG_joinBy_23 : decode prog_1_method_37_code 23 = .ok (.iconst 1, 1) := by decide +kernel
theorem dG_joinBy_24 : decode prog_1_method_37_code 24 = .ok (.putfield 314, 3) := by decide +kernel
theorem dG_joinBy_27 : decode prog_1_method_37_code 27 = .ok (.aload_n 1, 1) := by decide +kernel
theorem dG_joinBy_28 : decode prog_1_method_37_code 28 = .ok (.aload_n 3, 1) := by decide +kernel
theorem dG_joinBy_29 : decode prog_1_method_37_code 29 = .ok (.aload_n 2, 1) := by decide +kernel
theorem dG_joinBy_30 : decode prog_1_method_37_code 30 = .ok (.getfield 278, 3) := by decide +kernel
theorem dG_joinBy_33 : decode prog_1_method_37_code 33 = .ok (.invokevirtual 79, 3) := by decide +kernel
theorem dG_joinBy_36 : decode prog_1_method_37_code 36 = .ok (.aload_n 1, 1) := by decide +kernel
theorem dG_joinBy_37 : decode prog_1_method_37_code 37 = .ok (.aload_n 3, 1) := by decide +kernel
theorem dG_joinBy_38 : decode prog_1_method_37_code 38 = .ok (.aload_n 3, 1) := by decide +kernel
theorem dG_joinBy_39 : decode prog_1_method_37_code 39 = .ok (.aload_n 2, 1) := by decide +kernel
theorem dG_joinBy_40 : decode prog_1_method_37_code 40 = .ok (.getfield 278, 3) := by decide +kernel
theorem dG_joinBy_43 : decode prog_1_method_37_code 43 = .ok (.invokevirtual 318, 3) := by decide +kernel
theorem dG_joinBy_46 : decode prog_1_method_37_code 46 = .ok (.invokevirtual 321, 3) := by decide +kernel
theorem dG_joinBy_49 : decode prog_1_method_37_code 49 = .ok (.return_, 1) := by decide +kernel
theorem dG_compromise_0 : decode prog_1_method_8_code 0 = .ok (.iload_n 1, 1) := by decide +kernel
theorem dG_compromise_1 : decode prog_1_method_8_code 1 = .ok (.invokestatic 83, 3) := by decide +kernel
theorem dG_compromise_4 : decode prog_1_method_8_code 4 = .ok (.ifCond .ne 11, 3) := by decide +kernel
theorem dG_compromise_7 : decode prog_1_method_8_code 7 = .ok (.new 87, 3) := by decide +kernel
theorem dG_compromise_10 : decode prog_1_method_8_code 10 = .ok (.dup, 1) := by decide +kernel
theorem dG_compromise_11 : decode prog_1_method_8_code 11 = .ok (.invokespecial 89, 3) := by decide +kernel
theorem dG_compromise_14 : decode prog_1_method_8_code 14 = .ok (.athrow, 1) := by decide +kernel
theorem dG_compromise_15 : decode prog_1_method_8_code 15 = .ok (.aload_n 0, 1) := by decide +kernel
theorem dG_compromise_16 : decode prog_1_method_8_code 16 = .ok (.iload_n 1, 1) := by decide +kernel
theorem dG_compromise_17 : decode prog_1_method_8_code 17 = .ok (.invokevirtual 175, 3) := by decide +kernel
theorem dG_compromise_20 : decode prog_1_method_8_code 20 = .ok (.istore_n 2, 1) := by decide +kernel
theorem dG_compromise_21 : decode prog_1_method_8_code 21 = .ok (.iconst 0, 1) := by decide +kernel
theorem dG_compromise_22 : decode prog_1_method_8_code 22 = .ok (.istore_n 3, 1) := by decide +kernel
theorem dG_compromise_23 : decode prog_1_method_8_code 23 = .ok (.iload_n 3, 1) := by decide +kernel
theorem dG_compromise_24 : decode prog_1_method_8_code 24 = .ok (.iload_n 2, 1) := by decide +kernel
theorem dG_compromise_25 : decode prog_1_method_8_code 25 = .ok (.if_icmp .ge 22, 3) := by decide +kernel
theorem dG_compromise_28 : decode prog_1_method_8_code 28 = .ok (.aload_n 0, 1) := by decide +kernel
theorem dG_compromise_29 : decode prog_1_method_8_code 29 = .ok (.getfield 12, 3) := by decide +kernel
theorem dG_compromise_32 : decode prog_1_method_8_code 32 = .ok (.aload_n 0, 1) := by decide +kernel
theorem dG_compromise_33 : decode prog_1_method_8_code 33 = .ok (.getfield 44, 3) := by decide +kernel
theorem dG_compromise_36 : decode prog_1_method_8_code 36 = .ok (.iload_n 3, 1) := by decide +kernel
theorem dG_compromise_37 : decode prog_1_method_8_code 37 = .ok (.iaload, 1) := by decide +kernel
theorem dG_compromise_38 : decode prog_1_method_8_code 38 = .ok (.invokevirtual 178, 3) := by decide +kernel
theorem dG_compromise_41 : decode prog_1_method_8_code 41 = .ok (.iinc 3 1, 3) := by decide +kernel
theorem dG_compromise_44 : decode prog_1_method_8_code 44 = .ok (.goto (-21), 3) := by decide +kernel
theorem dG_compromise_47 : decode prog_1_method_8_code 47 = .ok (.aload_n 0, 1) := by decide +kernel
theorem dG_compromise_48 : decode prog_1_method_8_code 48 = .ok (.getfield 12, 3) := by decide +kernel
theorem dG_compromise_51 : decode prog_1_method_8_code 51 = .ok (.iconst 0, 1) := by decide +kernel
theorem dG_compromise_52 : decode prog_1_method_8_code 52 = .ok (.invokevirtual 155, 3) := by decide +kernel
theorem dG_compromise_55 : decode prog_1_method_8_code 55 = .ok (.iload_n 2, 1) := by decide +kernel
theorem dG_compromise_56 : decode prog_1_method_8_code 56 = .ok (.ireturn, 1) := by decide +kernel
