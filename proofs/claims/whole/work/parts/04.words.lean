theorem gh_nw_in : ∀ w ∈ gh_nw, w ∈ lw_tbl := fun w hw => by
  have h : gh_nw = [114, 116, 118, 120, 235, 259, 351, 354, 399, 461, 574, 588, 609, 689, 694, 695, 703, 730].filterMap (fun i => lw_tbl[i]?) := by decide +kernel
  rw [h] at hw
  obtain ⟨i, -, hi⟩ := List.mem_filterMap.mp hw
  exact List.mem_of_getElem? hi
theorem wG : ∀ w ∈ u_ws RG FG 10, w ∈ gh_T := fun w hw => by
  have h : u_ws RG FG 10 = [276, 278, 280, 282, 284, 286, 288, 290, 292, 294].filterMap (fun i => lw_tbl[i]?) := by decide +kernel
  have hg : (u_ws RG FG 10).all goodWord = true := by decide +kernel
  refine List.mem_filter.mpr ⟨?_, List.all_eq_true.mp hg w hw⟩
  rw [h] at hw
  obtain ⟨i, -, hi⟩ := List.mem_filterMap.mp hw
  exact List.mem_of_getElem? hi
theorem wS : ∀ w ∈ u_ws RS FS 6, w ∈ gh_T := fun w hw => by
  have h : u_ws RS FS 6 = [98, 100, 102, 104, 106, 108].filterMap (fun i => lw_tbl[i]?) := by decide +kernel
  have hg : (u_ws RS FS 6).all goodWord = true := by decide +kernel
  refine List.mem_filter.mpr ⟨?_, List.all_eq_true.mp hg w hw⟩
  rw [h] at hw
  obtain ⟨i, -, hi⟩ := List.mem_filterMap.mp hw
  exact List.mem_of_getElem? hi
theorem wB : ∀ w ∈ u_ws RB FB 7, w ∈ gh_T := fun w hw => by
  have h : u_ws RB FB 7 = [140, 142, 144, 146, 148, 150, 152].filterMap (fun i => lw_tbl[i]?) := by decide +kernel
  have hg : (u_ws RB FB 7).all goodWord = true := by decide +kernel
  refine List.mem_filter.mpr ⟨?_, List.all_eq_true.mp hg w hw⟩
  rw [h] at hw
  obtain ⟨i, -, hi⟩ := List.mem_filterMap.mp hw
  exact List.mem_of_getElem? hi
theorem wE : ∀ w ∈ u_ws RE FE 9, w ∈ gh_T := fun w hw => by
  have h : u_ws RE FE 9 = [204, 206, 208, 210, 212, 214, 216, 218, 220].filterMap (fun i => lw_tbl[i]?) := by decide +kernel
  have hg : (u_ws RE FE 9).all goodWord = true := by decide +kernel
  refine List.mem_filter.mpr ⟨?_, List.all_eq_true.mp hg w hw⟩
  rw [h] at hw
  obtain ⟨i, -, hi⟩ := List.mem_filterMap.mp hw
  exact List.mem_of_getElem? hi
theorem wT : ∀ w ∈ u_ws RT FT 4, w ∈ gh_T := fun w hw => by
  have h : u_ws RT FT 4 = [170, 172, 174, 176].filterMap (fun i => lw_tbl[i]?) := by decide +kernel
  have hg : (u_ws RT FT 4).all goodWord = true := by decide +kernel
  refine List.mem_filter.mpr ⟨?_, List.all_eq_true.mp hg w hw⟩
  rw [h] at hw
  obtain ⟨i, -, hi⟩ := List.mem_filterMap.mp hw
  exact List.mem_of_getElem? hi
theorem wK : ∀ w ∈ u_ws RK FK 6, w ∈ gh_T := fun w hw => by
  have h : u_ws RK FK 6 = [490, 492, 494, 496, 498, 500].filterMap (fun i => lw_tbl[i]?) := by decide +kernel
  have hg : (u_ws RK FK 6).all goodWord = true := by decide +kernel
  refine List.mem_filter.mpr ⟨?_, List.all_eq_true.mp hg w hw⟩
  rw [h] at hw
  obtain ⟨i, -, hi⟩ := List.mem_filterMap.mp hw
  exact List.mem_of_getElem? hi
theorem wP : ∀ w ∈ u_ws RP FP 3, w ∈ gh_T := fun w hw => by
  have h : u_ws RP FP 3 = [529, 531, 533].filterMap (fun i => lw_tbl[i]?) := by decide +kernel
  have hg : (u_ws RP FP 3).all goodWord = true := by decide +kernel
  refine List.mem_filter.mpr ⟨?_, List.all_eq_true.mp hg w hw⟩
  rw [h] at hw
  obtain ⟨i, -, hi⟩ := List.mem_filterMap.mp hw
  exact List.mem_of_getElem? hi
theorem wR : ∀ w ∈ u_ws RR FR 52, w ∈ gh_T := fun w hw => by
  have h : u_ws RR FR 52 = [815, 817, 819, 821, 823, 825, 827, 829, 831, 833, 835, 837, 839, 841, 843, 845, 847, 849, 851, 853, 855, 857, 859, 861, 863, 865, 867, 869, 871, 873, 875, 877, 879, 881, 883, 885, 887, 889, 891, 893, 895, 897, 899, 901, 903, 905, 907, 909, 911, 913, 915, 917].filterMap (fun i => lw_tbl[i]?) := by decide +kernel
  have hg : (u_ws RR FR 52).all goodWord = true := by decide +kernel
  refine List.mem_filter.mpr ⟨?_, List.all_eq_true.mp hg w hw⟩
  rw [h] at hw
  obtain ⟨i, -, hi⟩ := List.mem_filterMap.mp hw
  exact List.mem_of_getElem? hi
theorem fS_11 : gh_F "RatchetGroup$Secrets" 11 1 0 := ⟨(RS, FS, 6), rfl, by decide, wS, Or.inl (gh_in 92 (by decide +kernel) rfl)⟩
theorem pS_11 : gh_FP "RatchetGroup$Secrets" 11 1 0 (.array .byte) false := ⟨(RS, FS, 6), tS, rfl, by decide, wS, tS_ok, nS, rfl, rfl, Or.inl ⟨(gh_in 92 (by decide +kernel) rfl), fun h => Bool.noConfusion h⟩⟩
theorem fS_25 : gh_F "RatchetGroup$Secrets" 25 1 1 := ⟨(RS, FS, 6), rfl, by decide, wS, Or.inl (gh_in 93 (by decide +kernel) rfl)⟩
theorem pS_25 : gh_FP "RatchetGroup$Secrets" 25 1 1 .int false := ⟨(RS, FS, 6), tS, rfl, by decide, wS, tS_ok, nS, rfl, rfl, Or.inl ⟨(gh_in 93 (by decide +kernel) rfl), fun h => Bool.noConfusion h⟩⟩
theorem fS_15 : gh_F "RatchetGroup$Secrets" 15 1 2 := ⟨(RS, FS, 6), rfl, by decide, wS, Or.inl (gh_in 94 (by decide +kernel) rfl)⟩
theorem pS_15 : gh_FP "RatchetGroup$Secrets" 15 1 2 (.array .int) false := ⟨(RS, FS, 6), tS, rfl, by decide, wS, tS_ok, nS, rfl, rfl, Or.inl ⟨(gh_in 94 (by decide +kernel) rfl), fun h => Bool.noConfusion h⟩⟩
theorem fS_19 : gh_F "RatchetGroup$Secrets" 19 1 3 := ⟨(RS, FS, 6), rfl, by decide, wS, Or.inl (gh_in 95 (by decide +kernel) rfl)⟩
theorem pS_19 : gh_FP "RatchetGroup$Secrets" 19 1 3 (.array .int) false := ⟨(RS, FS, 6), tS, rfl, by decide, wS, tS_ok, nS, rfl, rfl, Or.inl ⟨(gh_in 95 (by decide +kernel) rfl), fun h => Bool.noConfusion h⟩⟩
theorem fS_22 : gh_F "RatchetGroup$Secrets" 22 1 4 := ⟨(RS, FS, 6), rfl, by decide, wS, Or.inl (gh_in 96 (by decide +kernel) rfl)⟩
theorem pS_22 : gh_FP "RatchetGroup$Secrets" 22 1 4 (.array .int) false := ⟨(RS, FS, 6), tS, rfl, by decide, wS, tS_ok, nS, rfl, rfl, Or.inl ⟨(gh_in 96 (by decide +kernel) rfl), fun h => Bool.noConfusion h⟩⟩
theorem fS_47 : gh_F "RatchetGroup$Secrets" 47 1 5 := ⟨(RS, FS, 6), rfl, by decide, wS, Or.inl (gh_in 97 (by decide +kernel) rfl)⟩
theorem pS_47 : gh_FP "RatchetGroup$Secrets" 47 1 5 .int false := ⟨(RS, FS, 6), tS, rfl, by decide, wS, tS_ok, nS, rfl, rfl, Or.inl ⟨(gh_in 97 (by decide +kernel) rfl), fun h => Bool.noConfusion h⟩⟩
theorem fB_9 : gh_F "RatchetGroup$Member" 9 2 0 := ⟨(RB, FB, 7), rfl, by decide, wB, Or.inl (gh_in 129 (by decide +kernel) rfl)⟩
theorem pB_9 : gh_FP "RatchetGroup$Member" 9 2 0 .int false := ⟨(RB, FB, 7), tB, rfl, by decide, wB, tB_ok, nB, rfl, rfl, Or.inl ⟨(gh_in 129 (by decide +kernel) rfl), fun h => Bool.noConfusion h⟩⟩
theorem fG_161 : gh_F "RatchetGroup" 161 2 0 := ⟨(RB, FB, 7), rfl, by decide, wB, Or.inl (gh_in 130 (by decide +kernel) rfl)⟩
theorem pG_161 : gh_FP "RatchetGroup" 161 2 0 .int false := ⟨(RB, FB, 7), tB, rfl, by decide, wB, tB_ok, nB, rfl, rfl, Or.inl ⟨(gh_in 130 (by decide +kernel) rfl), fun h => Bool.noConfusion h⟩⟩
theorem fB_15 : gh_F "RatchetGroup$Member" 15 2 1 := ⟨(RB, FB, 7), rfl, by decide, wB, Or.inl (gh_in 131 (by decide +kernel) rfl)⟩
theorem pB_15 : gh_FP "RatchetGroup$Member" 15 2 1 .int false := ⟨(RB, FB, 7), tB, rfl, by decide, wB, tB_ok, nB, rfl, rfl, Or.inl ⟨(gh_in 131 (by decide +kernel) rfl), fun h => Bool.noConfusion h⟩⟩
theorem fG_110 : gh_F "RatchetGroup" 110 2 1 := ⟨(RB, FB, 7), rfl, by decide, wB, Or.inl (gh_in 132 (by decide +kernel) rfl)⟩
theorem pG_110 : gh_FP "RatchetGroup" 110 2 1 .int false := ⟨(RB, FB, 7), tB, rfl, by decide, wB, tB_ok, nB, rfl, rfl, Or.inl ⟨(gh_in 132 (by decide +kernel) rfl), fun h => Bool.noConfusion h⟩⟩
theorem fB_18 : gh_F "RatchetGroup$Member" 18 2 2 := ⟨(RB, FB, 7), rfl, by decide, wB, Or.inl (gh_in 133 (by decide +kernel) rfl)⟩
theorem pB_18 : gh_FP "RatchetGroup$Member" 18 2 2 .int false := ⟨(RB, FB, 7), tB, rfl, by decide, wB, tB_ok, nB, rfl, rfl, Or.inl ⟨(gh_in 133 (by decide +kernel) rfl), fun h => Bool.noConfusion h⟩⟩
theorem fG_190 : gh_F "RatchetGroup" 190 2 2 := ⟨(RB, FB, 7), rfl, by decide, wB, Or.inl (gh_in 134 (by decide +kernel) rfl)⟩
theorem pG_190 : gh_FP "RatchetGroup" 190 2 2 .int false := ⟨(RB, FB, 7), tB, rfl, by decide, wB, tB_ok, nB, rfl, rfl, Or.inl ⟨(gh_in 134 (by decide +kernel) rfl), fun h => Bool.noConfusion h⟩⟩
theorem fB_83 : gh_F "RatchetGroup$Member" 83 2 3 := ⟨(RB, FB, 7), rfl, by decide, wB, Or.inl (gh_in 135 (by decide +kernel) rfl)⟩
theorem pB_83 : gh_FP "RatchetGroup$Member" 83 2 3 .int false := ⟨(RB, FB, 7), tB, rfl, by decide, wB, tB_ok, nB, rfl, rfl, Or.inl ⟨(gh_in 135 (by decide +kernel) rfl), fun h => Bool.noConfusion h⟩⟩
theorem fG_181 : gh_F "RatchetGroup" 181 2 3 := ⟨(RB, FB, 7), rfl, by decide, wB, Or.inl (gh_in 136 (by decide +kernel) rfl)⟩
theorem pG_181 : gh_FP "RatchetGroup" 181 2 3 .int false := ⟨(RB, FB, 7), tB, rfl, by decide, wB, tB_ok, nB, rfl, rfl, Or.inl ⟨(gh_in 136 (by decide +kernel) rfl), fun h => Bool.noConfusion h⟩⟩
theorem fB_21 : gh_F "RatchetGroup$Member" 21 2 4 := ⟨(RB, FB, 7), rfl, by decide, wB, Or.inl (gh_in 137 (by decide +kernel) rfl)⟩
theorem pB_21 : gh_FP "RatchetGroup$Member" 21 2 4 (.array .int) true := ⟨(RB, FB, 7), tB, rfl, by decide, wB, tB_ok, nB, rfl, rfl, Or.inl ⟨(gh_in 137 (by decide +kernel) rfl), fun _ => rfl⟩⟩
theorem fB_25 : gh_F "RatchetGroup$Member" 25 2 5 := ⟨(RB, FB, 7), rfl, by decide, wB, Or.inl (gh_in 138 (by decide +kernel) rfl)⟩
theorem pB_25 : gh_FP "RatchetGroup$Member" 25 2 5 (.array .int) true := ⟨(RB, FB, 7), tB, rfl, by decide, wB, tB_ok, nB, rfl, rfl, Or.inl ⟨(gh_in 138 (by decide +kernel) rfl), fun _ => rfl⟩⟩
theorem fB_34 : gh_F "RatchetGroup$Member" 34 2 6 := ⟨(RB, FB, 7), rfl, by decide, wB, Or.inl (gh_in 139 (by decide +kernel) rfl)⟩
theorem pB_34 : gh_FP "RatchetGroup$Member" 34 2 6 .int false := ⟨(RB, FB, 7), tB, rfl, by decide, wB, tB_ok, nB, rfl, rfl, Or.inl ⟨(gh_in 139 (by decide +kernel) rfl), fun h => Bool.noConfusion h⟩⟩
theorem fT_27 : gh_F "RatchetGroup$Tree" 27 4 0 := ⟨(RT, FT, 4), rfl, by decide, wT, Or.inl (gh_in 164 (by decide +kernel) rfl)⟩
theorem pT_27 : gh_FP "RatchetGroup$Tree" 27 4 0 .int false := ⟨(RT, FT, 4), tT, rfl, by decide, wT, tT_ok, nT, rfl, rfl, Or.inl ⟨(gh_in 164 (by decide +kernel) rfl), fun h => Bool.noConfusion h⟩⟩
theorem fE_25 : gh_F "RatchetGroup$Epoch" 25 4 0 := ⟨(RT, FT, 4), rfl, by decide, wT, Or.inl (gh_in 165 (by decide +kernel) rfl)⟩
theorem pE_25 : gh_FP "RatchetGroup$Epoch" 25 4 0 .int false := ⟨(RT, FT, 4), tT, rfl, by decide, wT, tT_ok, nT, rfl, rfl, Or.inl ⟨(gh_in 165 (by decide +kernel) rfl), fun h => Bool.noConfusion h⟩⟩
theorem fG_212 : gh_F "RatchetGroup" 212 4 0 := ⟨(RT, FT, 4), rfl, by decide, wT, Or.inl (gh_in 166 (by decide +kernel) rfl)⟩
theorem pG_212 : gh_FP "RatchetGroup" 212 4 0 .int false := ⟨(RT, FT, 4), tT, rfl, by decide, wT, tT_ok, nT, rfl, rfl, Or.inl ⟨(gh_in 166 (by decide +kernel) rfl), fun h => Bool.noConfusion h⟩⟩
theorem fT_9 : gh_F "RatchetGroup$Tree" 9 4 1 := ⟨(RT, FT, 4), rfl, by decide, wT, Or.inl (gh_in 167 (by decide +kernel) rfl)⟩
theorem pT_9 : gh_FP "RatchetGroup$Tree" 9 4 1 (.array .int) true := ⟨(RT, FT, 4), tT, rfl, by decide, wT, tT_ok, nT, rfl, rfl, Or.inl ⟨(gh_in 167 (by decide +kernel) rfl), fun _ => rfl⟩⟩
theorem fT_15 : gh_F "RatchetGroup$Tree" 15 4 2 := ⟨(RT, FT, 4), rfl, by decide, wT, Or.inl (gh_in 168 (by decide +kernel) rfl)⟩
theorem pT_15 : gh_FP "RatchetGroup$Tree" 15 4 2 (.array .int) true := ⟨(RT, FT, 4), tT, rfl, by decide, wT, tT_ok, nT, rfl, rfl, Or.inl ⟨(gh_in 168 (by decide +kernel) rfl), fun _ => rfl⟩⟩
theorem fT_18 : gh_F "RatchetGroup$Tree" 18 4 3 := ⟨(RT, FT, 4), rfl, by decide, wT, Or.inl (gh_in 169 (by decide +kernel) rfl)⟩
theorem pT_18 : gh_FP "RatchetGroup$Tree" 18 4 3 (.array .int) true := ⟨(RT, FT, 4), tT, rfl, by decide, wT, tT_ok, nT, rfl, rfl, Or.inl ⟨(gh_in 169 (by decide +kernel) rfl), fun _ => rfl⟩⟩
theorem fE_15 : gh_F "RatchetGroup$Epoch" 15 3 0 := ⟨(RE, FE, 9), rfl, by decide, wE, Or.inl (gh_in 183 (by decide +kernel) rfl)⟩
theorem pE_15 : gh_FP "RatchetGroup$Epoch" 15 3 0 .int true := ⟨(RE, FE, 9), tE, rfl, by decide, wE, tE_ok, nE, rfl, rfl, Or.inl ⟨(gh_in 183 (by decide +kernel) rfl), fun _ => rfl⟩⟩
theorem fB_40 : gh_F "RatchetGroup$Member" 40 3 0 := ⟨(RE, FE, 9), rfl, by decide, wE, Or.inl (gh_in 184 (by decide +kernel) rfl)⟩
theorem fG_158 : gh_F "RatchetGroup" 158 3 0 := ⟨(RE, FE, 9), rfl, by decide, wE, Or.inl (gh_in 185 (by decide +kernel) rfl)⟩
theorem fE_18 : gh_F "RatchetGroup$Epoch" 18 3 1 := ⟨(RE, FE, 9), rfl, by decide, wE, Or.inl (gh_in 186 (by decide +kernel) rfl)⟩
theorem pE_18 : gh_FP "RatchetGroup$Epoch" 18 3 1 (.object "RatchetGroup$Tree") true := ⟨(RE, FE, 9), tE, rfl, by decide, wE, tE_ok, nE, rfl, rfl, Or.inl ⟨(gh_in 186 (by decide +kernel) rfl), fun _ => rfl⟩⟩
theorem fG_60 : gh_F "RatchetGroup" 60 3 1 := ⟨(RE, FE, 9), rfl, by decide, wE, Or.inl (gh_in 187 (by decide +kernel) rfl)⟩
theorem fB_46 : gh_F "RatchetGroup$Member" 46 3 1 := ⟨(RE, FE, 9), rfl, by decide, wE, Or.inl (gh_in 188 (by decide +kernel) rfl)⟩
theorem fE_22 : gh_F "RatchetGroup$Epoch" 22 3 2 := ⟨(RE, FE, 9), rfl, by decide, wE, Or.inl (gh_in 189 (by decide +kernel) rfl)⟩
theorem pE_22 : gh_FP "RatchetGroup$Epoch" 22 3 2 .int true := ⟨(RE, FE, 9), tE, rfl, by decide, wE, tE_ok, nE, rfl, rfl, Or.inl ⟨(gh_in 189 (by decide +kernel) rfl), fun _ => rfl⟩⟩
theorem fG_215 : gh_F "RatchetGroup" 215 3 2 := ⟨(RE, FE, 9), rfl, by decide, wE, Or.inl (gh_in 190 (by decide +kernel) rfl)⟩
theorem fE_9 : gh_F "RatchetGroup$Epoch" 9 3 3 := ⟨(RE, FE, 9), rfl, by decide, wE, Or.inl (gh_in 191 (by decide +kernel) rfl)⟩
theorem pE_9 : gh_FP "RatchetGroup$Epoch" 9 3 3 .int false := ⟨(RE, FE, 9), tE, rfl, by decide, wE, tE_ok, nE, rfl, rfl, Or.inl ⟨(gh_in 191 (by decide +kernel) rfl), fun h => Bool.noConfusion h⟩⟩
theorem fG_72 : gh_F "RatchetGroup" 72 3 3 := ⟨(RE, FE, 9), rfl, by decide, wE, Or.inl (gh_in 192 (by decide +kernel) rfl)⟩
theorem pG_72 : gh_FP "RatchetGroup" 72 3 3 .int false := ⟨(RE, FE, 9), tE, rfl, by decide, wE, tE_ok, nE, rfl, rfl, Or.inl ⟨(gh_in 192 (by decide +kernel) rfl), fun h => Bool.noConfusion h⟩⟩
theorem fB_45 : gh_F "RatchetGroup$Member" 45 3 3 := ⟨(RE, FE, 9), rfl, by decide, wE, Or.inl (gh_in 193 (by decide +kernel) rfl)⟩
theorem pB_45 : gh_FP "RatchetGroup$Member" 45 3 3 .int false := ⟨(RE, FE, 9), tE, rfl, by decide, wE, tE_ok, nE, rfl, rfl, Or.inl ⟨(gh_in 193 (by decide +kernel) rfl), fun h => Bool.noConfusion h⟩⟩
theorem fE_30 : gh_F "RatchetGroup$Epoch" 30 3 4 := ⟨(RE, FE, 9), rfl, by decide, wE, Or.inl (gh_in 194 (by decide +kernel) rfl)⟩
theorem pE_30 : gh_FP "RatchetGroup$Epoch" 30 3 4 .int false := ⟨(RE, FE, 9), tE, rfl, by decide, wE, tE_ok, nE, rfl, rfl, Or.inl ⟨(gh_in 194 (by decide +kernel) rfl), fun h => Bool.noConfusion h⟩⟩
theorem fB_104 : gh_F "RatchetGroup$Member" 104 3 4 := ⟨(RE, FE, 9), rfl, by decide, wE, Or.inl (gh_in 195 (by decide +kernel) rfl)⟩
theorem pB_104 : gh_FP "RatchetGroup$Member" 104 3 4 .int false := ⟨(RE, FE, 9), tE, rfl, by decide, wE, tE_ok, nE, rfl, rfl, Or.inl ⟨(gh_in 195 (by decide +kernel) rfl), fun h => Bool.noConfusion h⟩⟩
theorem fG_218 : gh_F "RatchetGroup" 218 3 4 := ⟨(RE, FE, 9), rfl, by decide, wE, Or.inl (gh_in 196 (by decide +kernel) rfl)⟩
theorem pG_218 : gh_FP "RatchetGroup" 218 3 4 .int false := ⟨(RE, FE, 9), tE, rfl, by decide, wE, tE_ok, nE, rfl, rfl, Or.inl ⟨(gh_in 196 (by decide +kernel) rfl), fun h => Bool.noConfusion h⟩⟩
theorem fB_70 : gh_F "RatchetGroup$Member" 70 3 5 := ⟨(RE, FE, 9), rfl, by decide, wE, Or.inl (gh_in 197 (by decide +kernel) rfl)⟩
theorem pB_70 : gh_FP "RatchetGroup$Member" 70 3 5 .int false := ⟨(RE, FE, 9), tE, rfl, by decide, wE, tE_ok, nE, rfl, rfl, Or.inl ⟨(gh_in 197 (by decide +kernel) rfl), fun h => Bool.noConfusion h⟩⟩
theorem fG_132 : gh_F "RatchetGroup" 132 3 5 := ⟨(RE, FE, 9), rfl, by decide, wE, Or.inl (gh_in 198 (by decide +kernel) rfl)⟩
theorem pG_132 : gh_FP "RatchetGroup" 132 3 5 .int false := ⟨(RE, FE, 9), tE, rfl, by decide, wE, tE_ok, nE, rfl, rfl, Or.inl ⟨(gh_in 198 (by decide +kernel) rfl), fun h => Bool.noConfusion h⟩⟩
theorem fB_76 : gh_F "RatchetGroup$Member" 76 3 6 := ⟨(RE, FE, 9), rfl, by decide, wE, Or.inl (gh_in 199 (by decide +kernel) rfl)⟩
theorem pB_76 : gh_FP "RatchetGroup$Member" 76 3 6 .int false := ⟨(RE, FE, 9), tE, rfl, by decide, wE, tE_ok, nE, rfl, rfl, Or.inl ⟨(gh_in 199 (by decide +kernel) rfl), fun h => Bool.noConfusion h⟩⟩
theorem fG_135 : gh_F "RatchetGroup" 135 3 6 := ⟨(RE, FE, 9), rfl, by decide, wE, Or.inl (gh_in 200 (by decide +kernel) rfl)⟩
theorem pG_135 : gh_FP "RatchetGroup" 135 3 6 .int false := ⟨(RE, FE, 9), tE, rfl, by decide, wE, tE_ok, nE, rfl, rfl, Or.inl ⟨(gh_in 200 (by decide +kernel) rfl), fun h => Bool.noConfusion h⟩⟩
theorem fG_138 : gh_F "RatchetGroup" 138 3 7 := ⟨(RE, FE, 9), rfl, by decide, wE, Or.inl (gh_in 201 (by decide +kernel) rfl)⟩
theorem pG_138 : gh_FP "RatchetGroup" 138 3 7 .int false := ⟨(RE, FE, 9), tE, rfl, by decide, wE, tE_ok, nE, rfl, rfl, Or.inl ⟨(gh_in 201 (by decide +kernel) rfl), fun h => Bool.noConfusion h⟩⟩
theorem fB_93 : gh_F "RatchetGroup$Member" 93 3 7 := ⟨(RE, FE, 9), rfl, by decide, wE, Or.inl (gh_in 202 (by decide +kernel) rfl)⟩
theorem pB_93 : gh_FP "RatchetGroup$Member" 93 3 7 .int false := ⟨(RE, FE, 9), tE, rfl, by decide, wE, tE_ok, nE, rfl, rfl, Or.inl ⟨(gh_in 202 (by decide +kernel) rfl), fun h => Bool.noConfusion h⟩⟩
theorem fG_221 : gh_F "RatchetGroup" 221 3 8 := ⟨(RE, FE, 9), rfl, by decide, wE, Or.inl (gh_in 203 (by decide +kernel) rfl)⟩
theorem pG_221 : gh_FP "RatchetGroup" 221 3 8 .int false := ⟨(RE, FE, 9), tE, rfl, by decide, wE, tE_ok, nE, rfl, rfl, Or.inl ⟨(gh_in 203 (by decide +kernel) rfl), fun h => Bool.noConfusion h⟩⟩
theorem fG_12 : gh_F "RatchetGroup" 12 0 0 := ⟨(RG, FG, 10), rfl, by decide, wG, Or.inl (gh_in 266 (by decide +kernel) rfl)⟩
theorem pG_12 : gh_FP "RatchetGroup" 12 0 0 (.object "RatchetGroup$Secrets") true := ⟨(RG, FG, 10), tG, rfl, by decide, wG, tG_ok, nG, rfl, rfl, Or.inl ⟨(gh_in 266 (by decide +kernel) rfl), fun _ => rfl⟩⟩
theorem fG_18 : gh_F "RatchetGroup" 18 0 1 := ⟨(RG, FG, 10), rfl, by decide, wG, Or.inl (gh_in 267 (by decide +kernel) rfl)⟩
theorem pG_18 : gh_FP "RatchetGroup" 18 0 1 (.array (.object "RatchetGroup$Member")) true := ⟨(RG, FG, 10), tG, rfl, by decide, wG, tG_ok, nG, rfl, rfl, Or.inl ⟨(gh_in 267 (by decide +kernel) rfl), fun _ => rfl⟩⟩
theorem fG_24 : gh_F "RatchetGroup" 24 0 2 := ⟨(RG, FG, 10), rfl, by decide, wG, Or.inl (gh_in 268 (by decide +kernel) rfl)⟩
theorem pG_24 : gh_FP "RatchetGroup" 24 0 2 (.array (.object "RatchetGroup$Epoch")) true := ⟨(RG, FG, 10), tG, rfl, by decide, wG, tG_ok, nG, rfl, rfl, Or.inl ⟨(gh_in 268 (by decide +kernel) rfl), fun _ => rfl⟩⟩
theorem fG_76 : gh_F "RatchetGroup" 76 0 3 := ⟨(RG, FG, 10), rfl, by decide, wG, Or.inl (gh_in 269 (by decide +kernel) rfl)⟩
theorem pG_76 : gh_FP "RatchetGroup" 76 0 3 .int false := ⟨(RG, FG, 10), tG, rfl, by decide, wG, tG_ok, nG, rfl, rfl, Or.inl ⟨(gh_in 269 (by decide +kernel) rfl), fun h => Bool.noConfusion h⟩⟩
theorem fG_30 : gh_F "RatchetGroup" 30 0 4 := ⟨(RG, FG, 10), rfl, by decide, wG, Or.inl (gh_in 270 (by decide +kernel) rfl)⟩
theorem pG_30 : gh_FP "RatchetGroup" 30 0 4 (.array (.object "RatchetGroup$KeyPackage")) true := ⟨(RG, FG, 10), tG, rfl, by decide, wG, tG_ok, nG, rfl, rfl, Or.inl ⟨(gh_in 270 (by decide +kernel) rfl), fun _ => rfl⟩⟩
theorem fG_90 : gh_F "RatchetGroup" 90 0 5 := ⟨(RG, FG, 10), rfl, by decide, wG, Or.inl (gh_in 271 (by decide +kernel) rfl)⟩
theorem pG_90 : gh_FP "RatchetGroup" 90 0 5 .int false := ⟨(RG, FG, 10), tG, rfl, by decide, wG, tG_ok, nG, rfl, rfl, Or.inl ⟨(gh_in 271 (by decide +kernel) rfl), fun h => Bool.noConfusion h⟩⟩
theorem fG_36 : gh_F "RatchetGroup" 36 0 6 := ⟨(RG, FG, 10), rfl, by decide, wG, Or.inl (gh_in 272 (by decide +kernel) rfl)⟩
theorem pG_36 : gh_FP "RatchetGroup" 36 0 6 (.array (.object "RatchetGroup$Proposal")) true := ⟨(RG, FG, 10), tG, rfl, by decide, wG, tG_ok, nG, rfl, rfl, Or.inl ⟨(gh_in 272 (by decide +kernel) rfl), fun _ => rfl⟩⟩
theorem fG_152 : gh_F "RatchetGroup" 152 0 7 := ⟨(RG, FG, 10), rfl, by decide, wG, Or.inl (gh_in 273 (by decide +kernel) rfl)⟩
theorem pG_152 : gh_FP "RatchetGroup" 152 0 7 .int false := ⟨(RG, FG, 10), tG, rfl, by decide, wG, tG_ok, nG, rfl, rfl, Or.inl ⟨(gh_in 273 (by decide +kernel) rfl), fun h => Bool.noConfusion h⟩⟩
theorem fG_40 : gh_F "RatchetGroup" 40 0 8 := ⟨(RG, FG, 10), rfl, by decide, wG, Or.inl (gh_in 274 (by decide +kernel) rfl)⟩
theorem pG_40 : gh_FP "RatchetGroup" 40 0 8 (.array .int) true := ⟨(RG, FG, 10), tG, rfl, by decide, wG, tG_ok, nG, rfl, rfl, Or.inl ⟨(gh_in 274 (by decide +kernel) rfl), fun _ => rfl⟩⟩
theorem fG_44 : gh_F "RatchetGroup" 44 0 9 := ⟨(RG, FG, 10), rfl, by decide, wG, Or.inl (gh_in 275 (by decide +kernel) rfl)⟩
theorem pG_44 : gh_FP "RatchetGroup" 44 0 9 (.array .int) true := ⟨(RG, FG, 10), tG, rfl, by decide, wG, tG_ok, nG, rfl, rfl, Or.inl ⟨(gh_in 275 (by decide +kernel) rfl), fun _ => rfl⟩⟩
theorem fK_18 : gh_F "RatchetGroup$KeyPackage" 18 5 0 := ⟨(RK, FK, 6), rfl, by decide, wK, Or.inl (gh_in 479 (by decide +kernel) rfl)⟩
theorem pK_18 : gh_FP "RatchetGroup$KeyPackage" 18 5 0 .int true := ⟨(RK, FK, 6), tK, rfl, by decide, wK, tK_ok, nK, rfl, rfl, Or.inl ⟨(gh_in 479 (by decide +kernel) rfl), fun _ => rfl⟩⟩
theorem fG_263 : gh_F "RatchetGroup" 263 5 0 := ⟨(RK, FK, 6), rfl, by decide, wK, Or.inl (gh_in 480 (by decide +kernel) rfl)⟩
theorem fK_21 : gh_F "RatchetGroup$KeyPackage" 21 5 1 := ⟨(RK, FK, 6), rfl, by decide, wK, Or.inl (gh_in 481 (by decide +kernel) rfl)⟩
theorem pK_21 : gh_FP "RatchetGroup$KeyPackage" 21 5 1 .int true := ⟨(RK, FK, 6), tK, rfl, by decide, wK, tK_ok, nK, rfl, rfl, Or.inl ⟨(gh_in 481 (by decide +kernel) rfl), fun _ => rfl⟩⟩
theorem fG_305 : gh_F "RatchetGroup" 305 5 1 := ⟨(RK, FK, 6), rfl, by decide, wK, Or.inl (gh_in 482 (by decide +kernel) rfl)⟩
theorem fK_24 : gh_F "RatchetGroup$KeyPackage" 24 5 2 := ⟨(RK, FK, 6), rfl, by decide, wK, Or.inl (gh_in 483 (by decide +kernel) rfl)⟩
theorem pK_24 : gh_FP "RatchetGroup$KeyPackage" 24 5 2 .int true := ⟨(RK, FK, 6), tK, rfl, by decide, wK, tK_ok, nK, rfl, rfl, Or.inl ⟨(gh_in 483 (by decide +kernel) rfl), fun _ => rfl⟩⟩
theorem fG_272 : gh_F "RatchetGroup" 272 5 2 := ⟨(RK, FK, 6), rfl, by decide, wK, Or.inl (gh_in 484 (by decide +kernel) rfl)⟩
theorem fK_9 : gh_F "RatchetGroup$KeyPackage" 9 5 3 := ⟨(RK, FK, 6), rfl, by decide, wK, Or.inl (gh_in 485 (by decide +kernel) rfl)⟩
theorem pK_9 : gh_FP "RatchetGroup$KeyPackage" 9 5 3 .int false := ⟨(RK, FK, 6), tK, rfl, by decide, wK, tK_ok, nK, rfl, rfl, Or.inl ⟨(gh_in 485 (by decide +kernel) rfl), fun h => Bool.noConfusion h⟩⟩
theorem fG_262 : gh_F "RatchetGroup" 262 5 3 := ⟨(RK, FK, 6), rfl, by decide, wK, Or.inl (gh_in 486 (by decide +kernel) rfl)⟩
theorem pG_262 : gh_FP "RatchetGroup" 262 5 3 .int false := ⟨(RK, FK, 6), tK, rfl, by decide, wK, tK_ok, nK, rfl, rfl, Or.inl ⟨(gh_in 486 (by decide +kernel) rfl), fun h => Bool.noConfusion h⟩⟩
theorem fK_15 : gh_F "RatchetGroup$KeyPackage" 15 5 4 := ⟨(RK, FK, 6), rfl, by decide, wK, Or.inl (gh_in 487 (by decide +kernel) rfl)⟩
theorem pK_15 : gh_FP "RatchetGroup$KeyPackage" 15 5 4 .int false := ⟨(RK, FK, 6), tK, rfl, by decide, wK, tK_ok, nK, rfl, rfl, Or.inl ⟨(gh_in 487 (by decide +kernel) rfl), fun h => Bool.noConfusion h⟩⟩
theorem fG_278 : gh_F "RatchetGroup" 278 5 4 := ⟨(RK, FK, 6), rfl, by decide, wK, Or.inl (gh_in 488 (by decide +kernel) rfl)⟩
theorem pG_278 : gh_FP "RatchetGroup" 278 5 4 .int false := ⟨(RK, FK, 6), tK, rfl, by decide, wK, tK_ok, nK, rfl, rfl, Or.inl ⟨(gh_in 488 (by decide +kernel) rfl), fun h => Bool.noConfusion h⟩⟩
theorem fG_314 : gh_F "RatchetGroup" 314 5 5 := ⟨(RK, FK, 6), rfl, by decide, wK, Or.inl (gh_in 489 (by decide +kernel) rfl)⟩
theorem pG_314 : gh_FP "RatchetGroup" 314 5 5 .boolean false := ⟨(RK, FK, 6), tK, rfl, by decide, wK, tK_ok, nK, rfl, rfl, Or.inl ⟨(gh_in 489 (by decide +kernel) rfl), fun h => Bool.noConfusion h⟩⟩
theorem fP_7 : gh_F "RatchetGroup$Proposal" 7 6 0 := ⟨(RP, FP, 3), rfl, by decide, wP, Or.inl (gh_in 523 (by decide +kernel) rfl)⟩
theorem pP_7 : gh_FP "RatchetGroup$Proposal" 7 6 0 .int true := ⟨(RP, FP, 3), tP, rfl, by decide, wP, tP_ok, nP, rfl, rfl, Or.inl ⟨(gh_in 523 (by decide +kernel) rfl), fun _ => rfl⟩⟩
theorem fG_227 : gh_F "RatchetGroup" 227 6 0 := ⟨(RP, FP, 3), rfl, by decide, wP, Or.inl (gh_in 524 (by decide +kernel) rfl)⟩
theorem fP_13 : gh_F "RatchetGroup$Proposal" 13 6 1 := ⟨(RP, FP, 3), rfl, by decide, wP, Or.inl (gh_in 525 (by decide +kernel) rfl)⟩
theorem pP_13 : gh_FP "RatchetGroup$Proposal" 13 6 1 .int true := ⟨(RP, FP, 3), tP, rfl, by decide, wP, tP_ok, nP, rfl, rfl, Or.inl ⟨(gh_in 525 (by decide +kernel) rfl), fun _ => rfl⟩⟩
theorem fG_230 : gh_F "RatchetGroup" 230 6 1 := ⟨(RP, FP, 3), rfl, by decide, wP, Or.inl (gh_in 526 (by decide +kernel) rfl)⟩
theorem fP_16 : gh_F "RatchetGroup$Proposal" 16 6 2 := ⟨(RP, FP, 3), rfl, by decide, wP, Or.inl (gh_in 527 (by decide +kernel) rfl)⟩
theorem pP_16 : gh_FP "RatchetGroup$Proposal" 16 6 2 .int true := ⟨(RP, FP, 3), tP, rfl, by decide, wP, tP_ok, nP, rfl, rfl, Or.inl ⟨(gh_in 527 (by decide +kernel) rfl), fun _ => rfl⟩⟩
theorem fG_251 : gh_F "RatchetGroup" 251 6 2 := ⟨(RP, FP, 3), rfl, by decide, wP, Or.inl (gh_in 528 (by decide +kernel) rfl)⟩
theorem fR_155 : gh_F "RatchetGroupModel" 155 7 0 := ⟨(RR, FR, 52), rfl, by decide, wR, Or.inl (gh_in 763 (by decide +kernel) rfl)⟩
theorem pR_155 : gh_FP "RatchetGroupModel" 155 7 0 .int false := ⟨(RR, FR, 52), tR, rfl, by decide, wR, tR_ok, nR, rfl, rfl, Or.inl ⟨(gh_in 763 (by decide +kernel) rfl), fun h => Bool.noConfusion h⟩⟩
theorem fR_158 : gh_F "RatchetGroupModel" 158 7 1 := ⟨(RR, FR, 52), rfl, by decide, wR, Or.inl (gh_in 764 (by decide +kernel) rfl)⟩
theorem pR_158 : gh_FP "RatchetGroupModel" 158 7 1 .int false := ⟨(RR, FR, 52), tR, rfl, by decide, wR, tR_ok, nR, rfl, rfl, Or.inl ⟨(gh_in 764 (by decide +kernel) rfl), fun h => Bool.noConfusion h⟩⟩
theorem fR_7 : gh_F "RatchetGroupModel" 7 7 2 := ⟨(RR, FR, 52), rfl, by decide, wR, Or.inl (gh_in 765 (by decide +kernel) rfl)⟩
theorem pR_7 : gh_FP "RatchetGroupModel" 7 7 2 (.array .int) true := ⟨(RR, FR, 52), tR, rfl, by decide, wR, tR_ok, nR, rfl, rfl, Or.inl ⟨(gh_in 765 (by decide +kernel) rfl), fun _ => rfl⟩⟩
theorem fR_13 : gh_F "RatchetGroupModel" 13 7 3 := ⟨(RR, FR, 52), rfl, by decide, wR, Or.inl (gh_in 766 (by decide +kernel) rfl)⟩
theorem pR_13 : gh_FP "RatchetGroupModel" 13 7 3 (.array .int) true := ⟨(RR, FR, 52), tR, rfl, by decide, wR, tR_ok, nR, rfl, rfl, Or.inl ⟨(gh_in 766 (by decide +kernel) rfl), fun _ => rfl⟩⟩
theorem fR_16 : gh_F "RatchetGroupModel" 16 7 4 := ⟨(RR, FR, 52), rfl, by decide, wR, Or.inl (gh_in 767 (by decide +kernel) rfl)⟩
theorem pR_16 : gh_FP "RatchetGroupModel" 16 7 4 (.array .int) true := ⟨(RR, FR, 52), tR, rfl, by decide, wR, tR_ok, nR, rfl, rfl, Or.inl ⟨(gh_in 767 (by decide +kernel) rfl), fun _ => rfl⟩⟩
theorem fR_19 : gh_F "RatchetGroupModel" 19 7 5 := ⟨(RR, FR, 52), rfl, by decide, wR, Or.inl (gh_in 768 (by decide +kernel) rfl)⟩
theorem pR_19 : gh_FP "RatchetGroupModel" 19 7 5 (.array .boolean) true := ⟨(RR, FR, 52), tR, rfl, by decide, wR, tR_ok, nR, rfl, rfl, Or.inl ⟨(gh_in 768 (by decide +kernel) rfl), fun _ => rfl⟩⟩
theorem fR_23 : gh_F "RatchetGroupModel" 23 7 6 := ⟨(RR, FR, 52), rfl, by decide, wR, Or.inl (gh_in 769 (by decide +kernel) rfl)⟩
theorem pR_23 : gh_FP "RatchetGroupModel" 23 7 6 (.array .boolean) true := ⟨(RR, FR, 52), tR, rfl, by decide, wR, tR_ok, nR, rfl, rfl, Or.inl ⟨(gh_in 769 (by decide +kernel) rfl), fun _ => rfl⟩⟩
theorem fR_161 : gh_F "RatchetGroupModel" 161 7 7 := ⟨(RR, FR, 52), rfl, by decide, wR, Or.inl (gh_in 770 (by decide +kernel) rfl)⟩
theorem pR_161 : gh_FP "RatchetGroupModel" 161 7 7 .int false := ⟨(RR, FR, 52), tR, rfl, by decide, wR, tR_ok, nR, rfl, rfl, Or.inl ⟨(gh_in 770 (by decide +kernel) rfl), fun h => Bool.noConfusion h⟩⟩
theorem fR_26 : gh_F "RatchetGroupModel" 26 7 8 := ⟨(RR, FR, 52), rfl, by decide, wR, Or.inl (gh_in 771 (by decide +kernel) rfl)⟩
theorem pR_26 : gh_FP "RatchetGroupModel" 26 7 8 (.array .int) true := ⟨(RR, FR, 52), tR, rfl, by decide, wR, tR_ok, nR, rfl, rfl, Or.inl ⟨(gh_in 771 (by decide +kernel) rfl), fun _ => rfl⟩⟩
theorem fR_29 : gh_F "RatchetGroupModel" 29 7 9 := ⟨(RR, FR, 52), rfl, by decide, wR, Or.inl (gh_in 772 (by decide +kernel) rfl)⟩
theorem pR_29 : gh_FP "RatchetGroupModel" 29 7 9 (.array .int) true := ⟨(RR, FR, 52), tR, rfl, by decide, wR, tR_ok, nR, rfl, rfl, Or.inl ⟨(gh_in 772 (by decide +kernel) rfl), fun _ => rfl⟩⟩
theorem fR_32 : gh_F "RatchetGroupModel" 32 7 10 := ⟨(RR, FR, 52), rfl, by decide, wR, Or.inl (gh_in 773 (by decide +kernel) rfl)⟩
theorem pR_32 : gh_FP "RatchetGroupModel" 32 7 10 (.array .int) true := ⟨(RR, FR, 52), tR, rfl, by decide, wR, tR_ok, nR, rfl, rfl, Or.inl ⟨(gh_in 773 (by decide +kernel) rfl), fun _ => rfl⟩⟩
theorem fR_35 : gh_F "RatchetGroupModel" 35 7 11 := ⟨(RR, FR, 52), rfl, by decide, wR, Or.inl (gh_in 774 (by decide +kernel) rfl)⟩
theorem pR_35 : gh_FP "RatchetGroupModel" 35 7 11 (.array .int) true := ⟨(RR, FR, 52), tR, rfl, by decide, wR, tR_ok, nR, rfl, rfl, Or.inl ⟨(gh_in 774 (by decide +kernel) rfl), fun _ => rfl⟩⟩
theorem fR_151 : gh_F "RatchetGroupModel" 151 7 12 := ⟨(RR, FR, 52), rfl, by decide, wR, Or.inl (gh_in 775 (by decide +kernel) rfl)⟩
theorem pR_151 : gh_FP "RatchetGroupModel" 151 7 12 .int false := ⟨(RR, FR, 52), tR, rfl, by decide, wR, tR_ok, nR, rfl, rfl, Or.inl ⟨(gh_in 775 (by decide +kernel) rfl), fun h => Bool.noConfusion h⟩⟩
theorem fR_38 : gh_F "RatchetGroupModel" 38 7 13 := ⟨(RR, FR, 52), rfl, by decide, wR, Or.inl (gh_in 776 (by decide +kernel) rfl)⟩
theorem pR_38 : gh_FP "RatchetGroupModel" 38 7 13 (.array .int) true := ⟨(RR, FR, 52), tR, rfl, by decide, wR, tR_ok, nR, rfl, rfl, Or.inl ⟨(gh_in 776 (by decide +kernel) rfl), fun _ => rfl⟩⟩
theorem fR_41 : gh_F "RatchetGroupModel" 41 7 14 := ⟨(RR, FR, 52), rfl, by decide, wR, Or.inl (gh_in 777 (by decide +kernel) rfl)⟩
theorem pR_41 : gh_FP "RatchetGroupModel" 41 7 14 (.array .int) true := ⟨(RR, FR, 52), tR, rfl, by decide, wR, tR_ok, nR, rfl, rfl, Or.inl ⟨(gh_in 777 (by decide +kernel) rfl), fun _ => rfl⟩⟩
theorem fR_44 : gh_F "RatchetGroupModel" 44 7 15 := ⟨(RR, FR, 52), rfl, by decide, wR, Or.inl (gh_in 778 (by decide +kernel) rfl)⟩
theorem pR_44 : gh_FP "RatchetGroupModel" 44 7 15 (.array .int) true := ⟨(RR, FR, 52), tR, rfl, by decide, wR, tR_ok, nR, rfl, rfl, Or.inl ⟨(gh_in 778 (by decide +kernel) rfl), fun _ => rfl⟩⟩
theorem fR_47 : gh_F "RatchetGroupModel" 47 7 16 := ⟨(RR, FR, 52), rfl, by decide, wR, Or.inl (gh_in 779 (by decide +kernel) rfl)⟩
theorem pR_47 : gh_FP "RatchetGroupModel" 47 7 16 (.array .int) true := ⟨(RR, FR, 52), tR, rfl, by decide, wR, tR_ok, nR, rfl, rfl, Or.inl ⟨(gh_in 779 (by decide +kernel) rfl), fun _ => rfl⟩⟩
theorem fR_50 : gh_F "RatchetGroupModel" 50 7 17 := ⟨(RR, FR, 52), rfl, by decide, wR, Or.inl (gh_in 780 (by decide +kernel) rfl)⟩
theorem pR_50 : gh_FP "RatchetGroupModel" 50 7 17 (.array .int) true := ⟨(RR, FR, 52), tR, rfl, by decide, wR, tR_ok, nR, rfl, rfl, Or.inl ⟨(gh_in 780 (by decide +kernel) rfl), fun _ => rfl⟩⟩
theorem fR_53 : gh_F "RatchetGroupModel" 53 7 18 := ⟨(RR, FR, 52), rfl, by decide, wR, Or.inl (gh_in 781 (by decide +kernel) rfl)⟩
theorem pR_53 : gh_FP "RatchetGroupModel" 53 7 18 (.array .int) true := ⟨(RR, FR, 52), tR, rfl, by decide, wR, tR_ok, nR, rfl, rfl, Or.inl ⟨(gh_in 781 (by decide +kernel) rfl), fun _ => rfl⟩⟩
theorem fR_56 : gh_F "RatchetGroupModel" 56 7 19 := ⟨(RR, FR, 52), rfl, by decide, wR, Or.inl (gh_in 782 (by decide +kernel) rfl)⟩
theorem pR_56 : gh_FP "RatchetGroupModel" 56 7 19 (.array .int) true := ⟨(RR, FR, 52), tR, rfl, by decide, wR, tR_ok, nR, rfl, rfl, Or.inl ⟨(gh_in 782 (by decide +kernel) rfl), fun _ => rfl⟩⟩
theorem fR_59 : gh_F "RatchetGroupModel" 59 7 20 := ⟨(RR, FR, 52), rfl, by decide, wR, Or.inl (gh_in 783 (by decide +kernel) rfl)⟩
theorem pR_59 : gh_FP "RatchetGroupModel" 59 7 20 (.array .int) true := ⟨(RR, FR, 52), tR, rfl, by decide, wR, tR_ok, nR, rfl, rfl, Or.inl ⟨(gh_in 783 (by decide +kernel) rfl), fun _ => rfl⟩⟩
theorem fR_62 : gh_F "RatchetGroupModel" 62 7 21 := ⟨(RR, FR, 52), rfl, by decide, wR, Or.inl (gh_in 784 (by decide +kernel) rfl)⟩
theorem pR_62 : gh_FP "RatchetGroupModel" 62 7 21 (.array .boolean) true := ⟨(RR, FR, 52), tR, rfl, by decide, wR, tR_ok, nR, rfl, rfl, Or.inl ⟨(gh_in 784 (by decide +kernel) rfl), fun _ => rfl⟩⟩
theorem fR_65 : gh_F "RatchetGroupModel" 65 7 22 := ⟨(RR, FR, 52), rfl, by decide, wR, Or.inl (gh_in 785 (by decide +kernel) rfl)⟩
theorem pR_65 : gh_FP "RatchetGroupModel" 65 7 22 (.array .int) true := ⟨(RR, FR, 52), tR, rfl, by decide, wR, tR_ok, nR, rfl, rfl, Or.inl ⟨(gh_in 785 (by decide +kernel) rfl), fun _ => rfl⟩⟩
theorem fR_68 : gh_F "RatchetGroupModel" 68 7 23 := ⟨(RR, FR, 52), rfl, by decide, wR, Or.inl (gh_in 786 (by decide +kernel) rfl)⟩
theorem pR_68 : gh_FP "RatchetGroupModel" 68 7 23 (.array .int) true := ⟨(RR, FR, 52), tR, rfl, by decide, wR, tR_ok, nR, rfl, rfl, Or.inl ⟨(gh_in 786 (by decide +kernel) rfl), fun _ => rfl⟩⟩
theorem fR_71 : gh_F "RatchetGroupModel" 71 7 24 := ⟨(RR, FR, 52), rfl, by decide, wR, Or.inl (gh_in 787 (by decide +kernel) rfl)⟩
theorem pR_71 : gh_FP "RatchetGroupModel" 71 7 24 (.array .int) true := ⟨(RR, FR, 52), tR, rfl, by decide, wR, tR_ok, nR, rfl, rfl, Or.inl ⟨(gh_in 787 (by decide +kernel) rfl), fun _ => rfl⟩⟩
theorem fR_74 : gh_F "RatchetGroupModel" 74 7 25 := ⟨(RR, FR, 52), rfl, by decide, wR, Or.inl (gh_in 788 (by decide +kernel) rfl)⟩
theorem pR_74 : gh_FP "RatchetGroupModel" 74 7 25 (.array .int) true := ⟨(RR, FR, 52), tR, rfl, by decide, wR, tR_ok, nR, rfl, rfl, Or.inl ⟨(gh_in 788 (by decide +kernel) rfl), fun _ => rfl⟩⟩
theorem fR_77 : gh_F "RatchetGroupModel" 77 7 26 := ⟨(RR, FR, 52), rfl, by decide, wR, Or.inl (gh_in 789 (by decide +kernel) rfl)⟩
theorem pR_77 : gh_FP "RatchetGroupModel" 77 7 26 (.array .int) true := ⟨(RR, FR, 52), tR, rfl, by decide, wR, tR_ok, nR, rfl, rfl, Or.inl ⟨(gh_in 789 (by decide +kernel) rfl), fun _ => rfl⟩⟩
theorem fR_80 : gh_F "RatchetGroupModel" 80 7 27 := ⟨(RR, FR, 52), rfl, by decide, wR, Or.inl (gh_in 790 (by decide +kernel) rfl)⟩
theorem pR_80 : gh_FP "RatchetGroupModel" 80 7 27 (.array .int) true := ⟨(RR, FR, 52), tR, rfl, by decide, wR, tR_ok, nR, rfl, rfl, Or.inl ⟨(gh_in 790 (by decide +kernel) rfl), fun _ => rfl⟩⟩
theorem fR_83 : gh_F "RatchetGroupModel" 83 7 28 := ⟨(RR, FR, 52), rfl, by decide, wR, Or.inl (gh_in 791 (by decide +kernel) rfl)⟩
theorem pR_83 : gh_FP "RatchetGroupModel" 83 7 28 (.array .int) true := ⟨(RR, FR, 52), tR, rfl, by decide, wR, tR_ok, nR, rfl, rfl, Or.inl ⟨(gh_in 791 (by decide +kernel) rfl), fun _ => rfl⟩⟩
theorem fR_86 : gh_F "RatchetGroupModel" 86 7 29 := ⟨(RR, FR, 52), rfl, by decide, wR, Or.inl (gh_in 792 (by decide +kernel) rfl)⟩
theorem pR_86 : gh_FP "RatchetGroupModel" 86 7 29 (.array .int) true := ⟨(RR, FR, 52), tR, rfl, by decide, wR, tR_ok, nR, rfl, rfl, Or.inl ⟨(gh_in 792 (by decide +kernel) rfl), fun _ => rfl⟩⟩
theorem fR_89 : gh_F "RatchetGroupModel" 89 7 30 := ⟨(RR, FR, 52), rfl, by decide, wR, Or.inl (gh_in 793 (by decide +kernel) rfl)⟩
theorem pR_89 : gh_FP "RatchetGroupModel" 89 7 30 (.array .int) true := ⟨(RR, FR, 52), tR, rfl, by decide, wR, tR_ok, nR, rfl, rfl, Or.inl ⟨(gh_in 793 (by decide +kernel) rfl), fun _ => rfl⟩⟩
theorem fR_92 : gh_F "RatchetGroupModel" 92 7 31 := ⟨(RR, FR, 52), rfl, by decide, wR, Or.inl (gh_in 794 (by decide +kernel) rfl)⟩
theorem pR_92 : gh_FP "RatchetGroupModel" 92 7 31 (.array .int) true := ⟨(RR, FR, 52), tR, rfl, by decide, wR, tR_ok, nR, rfl, rfl, Or.inl ⟨(gh_in 794 (by decide +kernel) rfl), fun _ => rfl⟩⟩
theorem fR_95 : gh_F "RatchetGroupModel" 95 7 32 := ⟨(RR, FR, 52), rfl, by decide, wR, Or.inl (gh_in 795 (by decide +kernel) rfl)⟩
theorem pR_95 : gh_FP "RatchetGroupModel" 95 7 32 (.array .boolean) true := ⟨(RR, FR, 52), tR, rfl, by decide, wR, tR_ok, nR, rfl, rfl, Or.inl ⟨(gh_in 795 (by decide +kernel) rfl), fun _ => rfl⟩⟩
theorem fR_98 : gh_F "RatchetGroupModel" 98 7 33 := ⟨(RR, FR, 52), rfl, by decide, wR, Or.inl (gh_in 796 (by decide +kernel) rfl)⟩
theorem pR_98 : gh_FP "RatchetGroupModel" 98 7 33 (.array .int) true := ⟨(RR, FR, 52), tR, rfl, by decide, wR, tR_ok, nR, rfl, rfl, Or.inl ⟨(gh_in 796 (by decide +kernel) rfl), fun _ => rfl⟩⟩
theorem fR_101 : gh_F "RatchetGroupModel" 101 7 34 := ⟨(RR, FR, 52), rfl, by decide, wR, Or.inl (gh_in 797 (by decide +kernel) rfl)⟩
theorem pR_101 : gh_FP "RatchetGroupModel" 101 7 34 (.array .int) true := ⟨(RR, FR, 52), tR, rfl, by decide, wR, tR_ok, nR, rfl, rfl, Or.inl ⟨(gh_in 797 (by decide +kernel) rfl), fun _ => rfl⟩⟩
theorem fR_189 : gh_F "RatchetGroupModel" 189 7 35 := ⟨(RR, FR, 52), rfl, by decide, wR, Or.inl (gh_in 798 (by decide +kernel) rfl)⟩
theorem pR_189 : gh_FP "RatchetGroupModel" 189 7 35 .int false := ⟨(RR, FR, 52), tR, rfl, by decide, wR, tR_ok, nR, rfl, rfl, Or.inl ⟨(gh_in 798 (by decide +kernel) rfl), fun h => Bool.noConfusion h⟩⟩
theorem fR_104 : gh_F "RatchetGroupModel" 104 7 36 := ⟨(RR, FR, 52), rfl, by decide, wR, Or.inl (gh_in 799 (by decide +kernel) rfl)⟩
theorem pR_104 : gh_FP "RatchetGroupModel" 104 7 36 (.array .int) true := ⟨(RR, FR, 52), tR, rfl, by decide, wR, tR_ok, nR, rfl, rfl, Or.inl ⟨(gh_in 799 (by decide +kernel) rfl), fun _ => rfl⟩⟩
theorem fR_107 : gh_F "RatchetGroupModel" 107 7 37 := ⟨(RR, FR, 52), rfl, by decide, wR, Or.inl (gh_in 800 (by decide +kernel) rfl)⟩
theorem pR_107 : gh_FP "RatchetGroupModel" 107 7 37 (.array .int) true := ⟨(RR, FR, 52), tR, rfl, by decide, wR, tR_ok, nR, rfl, rfl, Or.inl ⟨(gh_in 800 (by decide +kernel) rfl), fun _ => rfl⟩⟩
theorem fR_110 : gh_F "RatchetGroupModel" 110 7 38 := ⟨(RR, FR, 52), rfl, by decide, wR, Or.inl (gh_in 801 (by decide +kernel) rfl)⟩
theorem pR_110 : gh_FP "RatchetGroupModel" 110 7 38 (.array .int) true := ⟨(RR, FR, 52), tR, rfl, by decide, wR, tR_ok, nR, rfl, rfl, Or.inl ⟨(gh_in 801 (by decide +kernel) rfl), fun _ => rfl⟩⟩
theorem fR_113 : gh_F "RatchetGroupModel" 113 7 39 := ⟨(RR, FR, 52), rfl, by decide, wR, Or.inl (gh_in 802 (by decide +kernel) rfl)⟩
theorem pR_113 : gh_FP "RatchetGroupModel" 113 7 39 (.array .int) true := ⟨(RR, FR, 52), tR, rfl, by decide, wR, tR_ok, nR, rfl, rfl, Or.inl ⟨(gh_in 802 (by decide +kernel) rfl), fun _ => rfl⟩⟩
theorem fR_116 : gh_F "RatchetGroupModel" 116 7 40 := ⟨(RR, FR, 52), rfl, by decide, wR, Or.inl (gh_in 803 (by decide +kernel) rfl)⟩
theorem pR_116 : gh_FP "RatchetGroupModel" 116 7 40 (.array .int) true := ⟨(RR, FR, 52), tR, rfl, by decide, wR, tR_ok, nR, rfl, rfl, Or.inl ⟨(gh_in 803 (by decide +kernel) rfl), fun _ => rfl⟩⟩
theorem fR_119 : gh_F "RatchetGroupModel" 119 7 41 := ⟨(RR, FR, 52), rfl, by decide, wR, Or.inl (gh_in 804 (by decide +kernel) rfl)⟩
theorem pR_119 : gh_FP "RatchetGroupModel" 119 7 41 (.array .boolean) true := ⟨(RR, FR, 52), tR, rfl, by decide, wR, tR_ok, nR, rfl, rfl, Or.inl ⟨(gh_in 804 (by decide +kernel) rfl), fun _ => rfl⟩⟩
theorem fR_195 : gh_F "RatchetGroupModel" 195 7 42 := ⟨(RR, FR, 52), rfl, by decide, wR, Or.inl (gh_in 805 (by decide +kernel) rfl)⟩
theorem pR_195 : gh_FP "RatchetGroupModel" 195 7 42 .int false := ⟨(RR, FR, 52), tR, rfl, by decide, wR, tR_ok, nR, rfl, rfl, Or.inl ⟨(gh_in 805 (by decide +kernel) rfl), fun h => Bool.noConfusion h⟩⟩
theorem fR_122 : gh_F "RatchetGroupModel" 122 7 43 := ⟨(RR, FR, 52), rfl, by decide, wR, Or.inl (gh_in 806 (by decide +kernel) rfl)⟩
theorem pR_122 : gh_FP "RatchetGroupModel" 122 7 43 (.array .int) true := ⟨(RR, FR, 52), tR, rfl, by decide, wR, tR_ok, nR, rfl, rfl, Or.inl ⟨(gh_in 806 (by decide +kernel) rfl), fun _ => rfl⟩⟩
theorem fR_125 : gh_F "RatchetGroupModel" 125 7 44 := ⟨(RR, FR, 52), rfl, by decide, wR, Or.inl (gh_in 807 (by decide +kernel) rfl)⟩
theorem pR_125 : gh_FP "RatchetGroupModel" 125 7 44 (.array .int) true := ⟨(RR, FR, 52), tR, rfl, by decide, wR, tR_ok, nR, rfl, rfl, Or.inl ⟨(gh_in 807 (by decide +kernel) rfl), fun _ => rfl⟩⟩
theorem fR_128 : gh_F "RatchetGroupModel" 128 7 45 := ⟨(RR, FR, 52), rfl, by decide, wR, Or.inl (gh_in 808 (by decide +kernel) rfl)⟩
theorem pR_128 : gh_FP "RatchetGroupModel" 128 7 45 (.array .int) true := ⟨(RR, FR, 52), tR, rfl, by decide, wR, tR_ok, nR, rfl, rfl, Or.inl ⟨(gh_in 808 (by decide +kernel) rfl), fun _ => rfl⟩⟩
theorem fR_183 : gh_F "RatchetGroupModel" 183 7 46 := ⟨(RR, FR, 52), rfl, by decide, wR, Or.inl (gh_in 809 (by decide +kernel) rfl)⟩
theorem pR_183 : gh_FP "RatchetGroupModel" 183 7 46 .int false := ⟨(RR, FR, 52), tR, rfl, by decide, wR, tR_ok, nR, rfl, rfl, Or.inl ⟨(gh_in 809 (by decide +kernel) rfl), fun h => Bool.noConfusion h⟩⟩
theorem fR_131 : gh_F "RatchetGroupModel" 131 7 47 := ⟨(RR, FR, 52), rfl, by decide, wR, Or.inl (gh_in 810 (by decide +kernel) rfl)⟩
theorem pR_131 : gh_FP "RatchetGroupModel" 131 7 47 (.array .int) true := ⟨(RR, FR, 52), tR, rfl, by decide, wR, tR_ok, nR, rfl, rfl, Or.inl ⟨(gh_in 810 (by decide +kernel) rfl), fun _ => rfl⟩⟩
theorem fR_176 : gh_F "RatchetGroupModel" 176 7 48 := ⟨(RR, FR, 52), rfl, by decide, wR, Or.inl (gh_in 811 (by decide +kernel) rfl)⟩
theorem pR_176 : gh_FP "RatchetGroupModel" 176 7 48 .int false := ⟨(RR, FR, 52), tR, rfl, by decide, wR, tR_ok, nR, rfl, rfl, Or.inl ⟨(gh_in 811 (by decide +kernel) rfl), fun h => Bool.noConfusion h⟩⟩
theorem fR_134 : gh_F "RatchetGroupModel" 134 7 49 := ⟨(RR, FR, 52), rfl, by decide, wR, Or.inl (gh_in 812 (by decide +kernel) rfl)⟩
theorem pR_134 : gh_FP "RatchetGroupModel" 134 7 49 (.array .int) true := ⟨(RR, FR, 52), tR, rfl, by decide, wR, tR_ok, nR, rfl, rfl, Or.inl ⟨(gh_in 812 (by decide +kernel) rfl), fun _ => rfl⟩⟩
theorem fR_137 : gh_F "RatchetGroupModel" 137 7 50 := ⟨(RR, FR, 52), rfl, by decide, wR, Or.inl (gh_in 813 (by decide +kernel) rfl)⟩
theorem pR_137 : gh_FP "RatchetGroupModel" 137 7 50 (.array .int) true := ⟨(RR, FR, 52), tR, rfl, by decide, wR, tR_ok, nR, rfl, rfl, Or.inl ⟨(gh_in 813 (by decide +kernel) rfl), fun _ => rfl⟩⟩
theorem fR_140 : gh_F "RatchetGroupModel" 140 7 51 := ⟨(RR, FR, 52), rfl, by decide, wR, Or.inl (gh_in 814 (by decide +kernel) rfl)⟩
theorem pR_140 : gh_FP "RatchetGroupModel" 140 7 51 (.array .int) true := ⟨(RR, FR, 52), tR, rfl, by decide, wR, tR_ok, nR, rfl, rfl, Or.inl ⟨(gh_in 814 (by decide +kernel) rfl), fun _ => rfl⟩⟩
theorem kL_8 : Cond.classLink "RatchetGroupLaw" 8 "RatchetGroup" ∈ gh_T := (gh_in 78 (by decide +kernel) rfl)
theorem zL_8 : gh_N "RatchetGroupLaw" 8 0 10 [.null, .null, .null, .int 0, .null, .int 0, .null, .int 0, .null, .null] := ⟨(RG, FG, 10), tG, rfl, rfl, wG, tG_ok, kL_8, (gh_in 79 (by decide +kernel) rfl), (gh_in 61 (by decide +kernel) rfl), by decide +kernel⟩
theorem kG_9 : Cond.classLink "RatchetGroup" 9 "RatchetGroup$Secrets" ∈ gh_T := (gh_in 86 (by decide +kernel) rfl)
theorem zG_9 : gh_N "RatchetGroup" 9 1 6 [.null, .int 0, .null, .null, .null, .int 0] := ⟨(RS, FS, 6), tS, rfl, rfl, wS, tS_ok, kG_9, (gh_in 87 (by decide +kernel) rfl), (gh_in 62 (by decide +kernel) rfl), by decide +kernel⟩
theorem kG_16 : Cond.classLink "RatchetGroup" 16 "RatchetGroup$Member" ∈ gh_T := (gh_in 113 (by decide +kernel) rfl)
theorem zG_16 : gh_N "RatchetGroup" 16 2 7 [.int 0, .int 0, .int 0, .int 0, .null, .null, .int 0] := ⟨(RB, FB, 7), tB, rfl, rfl, wB, tB_ok, kG_16, (gh_in 121 (by decide +kernel) rfl), (gh_in 63 (by decide +kernel) rfl), by decide +kernel⟩
theorem kG_22 : Cond.classLink "RatchetGroup" 22 "RatchetGroup$Epoch" ∈ gh_T := (gh_in 115 (by decide +kernel) rfl)
theorem zG_22 : gh_N "RatchetGroup" 22 3 9 [.int 0, .null, .int 0, .int 0, .int 0, .int 0, .int 0, .int 0, .int 0] := ⟨(RE, FE, 9), tE, rfl, rfl, wE, tE_ok, kG_22, (gh_in 156 (by decide +kernel) rfl), (gh_in 65 (by decide +kernel) rfl), by decide +kernel⟩
theorem kG_28 : Cond.classLink "RatchetGroup" 28 "RatchetGroup$KeyPackage" ∈ gh_T := (gh_in 117 (by decide +kernel) rfl)
theorem zG_28 : gh_N "RatchetGroup" 28 5 6 [.int 0, .int 0, .int 0, .int 0, .int 0, .int 0] := ⟨(RK, FK, 6), tK, rfl, rfl, wK, tK_ok, kG_28, (gh_in 474 (by decide +kernel) rfl), (gh_in 75 (by decide +kernel) rfl), by decide +kernel⟩
theorem kG_34 : Cond.classLink "RatchetGroup" 34 "RatchetGroup$Proposal" ∈ gh_T := (gh_in 119 (by decide +kernel) rfl)
theorem zG_34 : gh_N "RatchetGroup" 34 6 3 [.int 0, .int 0, .int 0] := ⟨(RP, FP, 3), tP, rfl, rfl, wP, tP_ok, kG_34, (gh_in 518 (by decide +kernel) rfl), (gh_in 76 (by decide +kernel) rfl), by decide +kernel⟩
theorem kG_54 : Cond.classLink "RatchetGroup" 54 "RatchetGroup$Tree" ∈ gh_T := (gh_in 157 (by decide +kernel) rfl)
theorem zG_54 : gh_N "RatchetGroup" 54 4 4 [.int 0, .null, .null, .null] := ⟨(RT, FT, 4), tT, rfl, rfl, wT, tT_ok, kG_54, (gh_in 158 (by decide +kernel) rfl), (gh_in 66 (by decide +kernel) rfl), by decide +kernel⟩
theorem kA_311 : Cond.classLink "java/util/Arrays" 311 "[B" ∈ gh_T := (gh_in 236 (by decide +kernel) rfl)
theorem kL_13 : Cond.classLink "RatchetGroupLaw" 13 "java/lang/IndexOutOfBoundsException" ∈ gh_T := (gh_in 391 (by decide +kernel) rfl)
theorem kL_15 : Cond.classLink "RatchetGroupLaw" 15 "java/lang/IllegalStateException" ∈ gh_T := (gh_in 392 (by decide +kernel) rfl)
theorem kG_87 : Cond.classLink "RatchetGroup" 87 "java/lang/IndexOutOfBoundsException" ∈ gh_T := (gh_in 397 (by decide +kernel) rfl)
theorem kG_93 : Cond.classLink "RatchetGroup" 93 "java/lang/IllegalStateException" ∈ gh_T := (gh_in 459 (by decide +kernel) rfl)
theorem kA_317 : Cond.classLink "java/util/Arrays" 317 "[I" ∈ gh_T := (gh_in 575 (by decide +kernel) rfl)
theorem kL_38 : Cond.classLink "RatchetGroupLaw" 38 "RatchetGroupModel" ∈ gh_T := (gh_in 749 (by decide +kernel) rfl)
theorem zL_38 : gh_N "RatchetGroupLaw" 38 7 52 [.int 0, .int 0, .null, .null, .null, .null, .null, .int 0, .null, .null, .null, .null, .int 0, .null, .null, .null, .null, .null, .null, .null, .null, .null, .null, .null, .null, .null, .null, .null, .null, .null, .null, .null, .null, .null, .null, .int 0, .null, .null, .null, .null, .null, .null, .int 0, .null, .null, .null, .int 0, .null, .int 0, .null, .null, .null] := ⟨(RR, FR, 52), tR, rfl, rfl, wR, tR_ok, kL_38, (gh_in 750 (by decide +kernel) rfl), (gh_in 69 (by decide +kernel) rfl), by decide +kernel⟩
theorem ac_0 : Cond.arrayClass .int ∈ gh_T := (gh_in 112 (by decide +kernel) rfl)
theorem ac_1 : Cond.arrayClass .byte ∈ gh_T := (gh_in 111 (by decide +kernel) rfl)
theorem ac_2 : Cond.arrayClass .boolean ∈ gh_T := (gh_in 920 (by decide +kernel) rfl)
theorem ac_3 : Cond.arrayClass .long ∈ gh_T := (gh_in 1142 (by decide +kernel) rfl)
