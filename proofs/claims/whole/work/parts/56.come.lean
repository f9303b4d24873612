/-! come, compromise -/
def cfS (S : SC) (m f a : Nat) : SC := if S.2.1 7 f &&& bitN a = 0 then
    mbS S m (nI f) (nI a) (fls (skd (S.1 2 f) (S.2.2 2 f) (S.2.2 4 f) (S.2.1 6 f) (S.2.1 9 f) a (flu (S.2.2 2 f) (S.2.1 8 f) a (S.2.2 0 m))) (S.2.1 2 m) (S.2.1 5 f)) (if skd (S.1 2 f) (S.2.2 2 f) (S.2.2 4 f) (S.2.1 6 f) (S.2.1 9 f) a (flu (S.2.2 2 f) (S.2.1 8 f) a (S.2.2 0 m)) = true then S.2.1 3 m + 1 else S.2.1 3 m) 0 (flf (S.1 2 f) (S.2.2 2 f) (S.2.2 4 f) (S.2.1 6 f) (S.2.1 9 f) (S.2.1 8 f) a (S.2.2 0 m))
  else lvS S m
set_option maxRecDepth 100000 in
set_option maxHeartbeats 4000000 in
theorem c_comeF (l : Launch) (d : gh_D) (g : gh_H) {Z : ZC} {S : SC} (hA : cA g Z S (sE S)) (m e a : Nat) (hm : m < 16) (hE60 : sE S ≤ 60) (he : S.2.1 0 m = nI e) (hel : e + 1 < sE S) (hL : S.2.1 1 m = nI a) (ha : S.2.1 7 (e + 1) &&& bitN a = 0 → a < 2 ^ S.1 2 (e + 1)) : gh_C l d mG_come (rr 10 0 0) [.ref (Z 1 0), .int (nI m)] g (fun v g1 => v = some (.int ((cfS S m (e + 1) a).2.1 0 m)) ∧ cA g1 Z (cfS S m (e + 1) a) (sE S) ∧ fr kA g g1) := by
  refine gh_of [some (.ref (Z 1 0)), some (.int (nI m)), none, none] (by decide) rfl (Nat.le_of_ble_eq_true rfl) (by simp [Value.category]) (fun z C hQ => ?_)
  show gh_W l d z 0 [some (.ref (Z 1 0)), some (.int (nI m)), none, none] [] g 0 0
  obtain ⟨⟨qm, hqm, hqm2⟩, hM2⟩ := id hA.2.2.1
  obtain ⟨⟨qe, hqe, hqe2⟩, hE2⟩ := id hA.2.2.2.1
  have hmm := hM2 m hm
  have hw := hE2 (e + 1) hel
  refine gh_iload_n C dG_come_0 rfl ?_
  refine gh_callS C [.int (nI m)] (c_isMember l d _ (nI m)) lG_83 wG_isMember sG_isMember rfl rfl (Nat.le_of_ble_eq_true rfl) ⟨Nat.le_of_ble_eq_true rfl, Nat.le_of_ble_eq_true rfl⟩ (Nat.le_of_ble_eq_true rfl) (Nat.le_of_ble_eq_true rfl) dG_come_1 (fun v1 g1 h1 => ?_)
  obtain ⟨rfl, hg1⟩ := h1
  subst g1
  rw [if_pos (inn_n hm (by decide))]
  refine gh_if_ne C 15 dG_come_4 (by decide) (fun c4 => ?_) (fun c4 => ?_)
  ·
    refine gh_aload_n C dG_come_15 rfl ?_
    refine gh_get C fG_18 hA.1 rfl dG_come_16 ?_
    refine gh_iload_n C dG_come_19 rfl ?_
    refine gh_aaldN C (m) hqm rfl rfl ⟨hm, by decide⟩ dG_come_20 ?_
    refine gh_tr (some (Z 8 m)) (hqm2 m hm) ?_
    refine gh_astore_n C [some (.ref (Z 1 0)), some (.int (nI m)), some (.ref (Z 8 m)), none] dG_come_21 rfl (Nat.le_of_ble_eq_true rfl) ?_
    refine gh_aload_n C dG_come_22 rfl ?_
    refine gh_get C fG_161 hmm.1 rfl dG_come_23 ?_
    refine gh_iconst C (-1) dG_come_26 (by decide) ?_
    refine gh_icmp_eq C 71 dG_come_27 (by decide) (fun c27 => ?_) (fun c27 => ?_)
    · exact absurd (he.symm.trans c27) (nI_ne1 (by omega))
    ·
      refine gh_aload_n C dG_come_30 rfl ?_
      refine gh_get C fG_161 hmm.1 rfl dG_come_31 ?_
      refine gh_aload_n C dG_come_34 rfl ?_
      refine gh_get C fG_76 hA.1 rfl dG_come_35 ?_
      refine gh_iconst C 1 dG_come_38 (by decide) ?_
      refine gh_isub C dG_come_39 ?_
      refine gh_ti (nI (sE S - 1)) (pred_n (by omega)) ?_
      refine gh_icmp_lt C 51 dG_come_40 (by decide) (fun c40 => ?_) (fun c40 => ?_)
      ·
        refine gh_aload_n C dG_come_51 rfl ?_
        refine gh_aload_n C dG_come_52 rfl ?_
        refine gh_get C fG_24 hA.1 rfl dG_come_53 ?_
        refine gh_aload_n C dG_come_56 rfl ?_
        refine gh_get C fG_161 hmm.1 rfl dG_come_57 ?_
        refine gh_iconst C 1 dG_come_60 (by decide) ?_
        refine gh_iadd C dG_come_61 ?_
        refine gh_ti (nI (e + 1)) (by rw [he]; exact nI_1 e) ?_
        refine gh_aaldN C (e + 1) hqe rfl rfl ⟨by omega, by decide⟩ dG_come_62 ?_
        refine gh_tr (some (Z 12 (e + 1))) (hqe2 (e + 1) hel) ?_
        by_cases hrm : S.2.1 7 (e + 1) &&& bitN a = 0
        · refine gh_callV C [.ref (Z 12 (e + 1))] (c_follow l d _ hmm hw.2 hw.1 a hL (ha hrm) hrm) lG_164 wB_follow vB_follow hmm.1 rfl rfl rfl (Nat.le_of_ble_eq_true rfl) ⟨Nat.le_of_ble_eq_true rfl, Nat.le_of_ble_eq_true rfl⟩ (Nat.le_of_ble_eq_true rfl) (Nat.le_of_ble_eq_true rfl) dG_come_63 (fun v63 g63 h63 => ?_)
          obtain ⟨rfl, rfl⟩ := h63
          have eS : cfS S m (e + 1) a = _ := if_pos hrm
          have hA2 := hA.mb hm (nI (e + 1)) (nI a) (fls (skd (S.1 2 (e + 1)) (S.2.2 2 (e + 1)) (S.2.2 4 (e + 1)) (S.2.1 6 (e + 1)) (S.2.1 9 (e + 1)) a (flu (S.2.2 2 (e + 1)) (S.2.1 8 (e + 1)) a (S.2.2 0 m))) (S.2.1 2 m) (S.2.1 5 (e + 1))) (if skd (S.1 2 (e + 1)) (S.2.2 2 (e + 1)) (S.2.2 4 (e + 1)) (S.2.1 6 (e + 1)) (S.2.1 9 (e + 1)) a (flu (S.2.2 2 (e + 1)) (S.2.1 8 (e + 1)) a (S.2.2 0 m)) = true then S.2.1 3 m + 1 else S.2.1 3 m) 0 (flf (S.1 2 (e + 1)) (S.2.2 2 (e + 1)) (S.2.2 4 (e + 1)) (S.2.1 6 (e + 1)) (S.2.1 9 (e + 1)) (S.2.1 8 (e + 1)) a (S.2.2 0 m))
          rw [← eS] at hA2
          have hm2 := hA2.2.2.1.2 m hm
          refine gh_aload_n C dG_come_66 rfl ?_
          refine gh_get C fG_161 hm2.1 rfl dG_come_67 ?_
          refine gh_iret C hQ rfl dG_come_70 ?_
          exact ⟨rfl, hA2, fr_mst rfl rfl⟩
        · refine gh_callV C [.ref (Z 12 (e + 1))] (c_followOut l d _ hmm hw.1 a hL hrm) lG_164 wB_follow vB_follow hmm.1 rfl rfl rfl (Nat.le_of_ble_eq_true rfl) ⟨Nat.le_of_ble_eq_true rfl, Nat.le_of_ble_eq_true rfl⟩ (Nat.le_of_ble_eq_true rfl) (Nat.le_of_ble_eq_true rfl) dG_come_63 (fun v63 g63 h63 => ?_)
          obtain ⟨rfl, rfl⟩ := h63
          have eS : cfS S m (e + 1) a = lvS S m := if_neg hrm
          have hA2 := hA.mb hm (-1) (-1) (-1) (S.2.1 3 m) 0 (fl 5 (-1) (S.2.2 0 m))
          change cA _ Z (lvS S m) _ at hA2
          rw [← eS] at hA2
          have hm2 := hA2.2.2.1.2 m hm
          refine gh_aload_n C dG_come_66 rfl ?_
          refine gh_get C fG_161 hm2.1 rfl dG_come_67 ?_
          refine gh_iret C hQ rfl dG_come_70 ?_
          exact ⟨rfl, hA2, fr_mst rfl rfl⟩
      · exact absurd (show S.2.1 0 m < nI (sE S - 1) by rw [he]; exact nI_lt (by omega) (by omega)) c40
  · exact absurd c4 (by decide)
set_option maxRecDepth 100000 in
set_option maxHeartbeats 4000000 in
theorem c_comeJ (l : Launch) (d : gh_D) (g : gh_H) {Z : ZC} {S : SC} (hA : cA g Z S (sE S)) (m p e a : Nat) (hm : m < 16) (hP60 : sP S ≤ 60) (hE60 : sE S ≤ 60) (h0 : S.2.1 0 m = -1) (hew : ew S m (sP S) = some p) (hel : e < sE S) (h14 : S.2.1 14 p = nI e) (h15 : S.2.1 15 p = nI a) (ha : a < 2 ^ S.1 2 e) : gh_C l d mG_come (rr 4 0 0) [.ref (Z 1 0), .int (nI m)] g (fun v g1 => v = some (.int (nI e)) ∧ cA g1 Z (jnS S m p e a) (sE S) ∧ fr kA g g1) := by
  refine gh_of [some (.ref (Z 1 0)), some (.int (nI m)), none, none] (by decide) rfl (Nat.le_of_ble_eq_true rfl) (by simp [Value.category]) (fun z C hQ => ?_)
  show gh_W l d z 0 [some (.ref (Z 1 0)), some (.int (nI m)), none, none] [] g 0 0
  obtain ⟨⟨qm, hqm, hqm2⟩, hM2⟩ := id hA.2.2.1
  obtain ⟨⟨qk, hqk, hqk2⟩, hK2⟩ := id hA.2.2.2.2.1
  have hmm := hM2 m hm
  have hp := ew_lt S m _ p hew
  refine gh_iload_n C dG_come_0 rfl ?_
  refine gh_callS C [.int (nI m)] (c_isMember l d _ (nI m)) lG_83 wG_isMember sG_isMember rfl rfl (Nat.le_of_ble_eq_true rfl) ⟨Nat.le_of_ble_eq_true rfl, Nat.le_of_ble_eq_true rfl⟩ (Nat.le_of_ble_eq_true rfl) (Nat.le_of_ble_eq_true rfl) dG_come_1 (fun v1 g1 h1 => ?_)
  obtain ⟨rfl, hg1⟩ := h1
  subst g1
  rw [if_pos (inn_n hm (by decide))]
  refine gh_if_ne C 15 dG_come_4 (by decide) (fun c4 => ?_) (fun c4 => ?_)
  ·
    refine gh_aload_n C dG_come_15 rfl ?_
    refine gh_get C fG_18 hA.1 rfl dG_come_16 ?_
    refine gh_iload_n C dG_come_19 rfl ?_
    refine gh_aaldN C (m) hqm rfl rfl ⟨hm, by decide⟩ dG_come_20 ?_
    refine gh_tr (some (Z 8 m)) (hqm2 m hm) ?_
    refine gh_astore_n C [some (.ref (Z 1 0)), some (.int (nI m)), some (.ref (Z 8 m)), none] dG_come_21 rfl (Nat.le_of_ble_eq_true rfl) ?_
    refine gh_aload_n C dG_come_22 rfl ?_
    refine gh_get C fG_161 hmm.1 rfl dG_come_23 ?_
    refine gh_iconst C (-1) dG_come_26 (by decide) ?_
    refine gh_icmp_eq C 71 dG_come_27 (by decide) (fun c27 => ?_) (fun c27 => ?_)
    ·
      refine gh_aload_n C dG_come_71 rfl ?_
      refine gh_iload_n C dG_come_72 rfl ?_
      refine gh_callV C [.int (nI m)] (c_earliest l d _ hA.1 hA.2.2.2.2.1 m hP60) lG_167 wG_earliestWelcome vG_earliestWelcome hA.1 rfl rfl rfl (Nat.le_of_ble_eq_true rfl) ⟨Nat.le_of_ble_eq_true rfl, Nat.le_of_ble_eq_true rfl⟩ (Nat.le_of_ble_eq_true rfl) (Nat.le_of_ble_eq_true rfl) dG_come_73 (fun v73 g73 h73 => ?_)
      obtain ⟨rfl, hg73⟩ := h73
      subst g73
      rw [hew]
      refine gh_istore_n C [some (.ref (Z 1 0)), some (.int (nI m)), some (.ref (Z 8 m)), some (.int (nI p))] dG_come_76 rfl (Nat.le_of_ble_eq_true rfl) ?_
      refine gh_iload_n C dG_come_77 rfl ?_
      refine gh_iconst C (-1) dG_come_78 (by decide) ?_
      refine gh_icmp_ne C 90 dG_come_79 (by decide) (fun c79 => ?_) (fun c79 => ?_)
      ·
        refine gh_aload_n C dG_come_90 rfl ?_
        refine gh_aload_n C dG_come_91 rfl ?_
        refine gh_aload_n C dG_come_92 rfl ?_
        refine gh_get C fG_30 hA.1 rfl dG_come_93 ?_
        refine gh_iload_n C dG_come_96 rfl ?_
        refine gh_aaldN C (p) hqk rfl rfl ⟨by omega, by decide⟩ dG_come_97 ?_
        refine gh_tr (some (Z 18 p)) (hqk2 p hp) ?_
        refine gh_callV C [.ref (Z 8 m), .ref (Z 18 p)] (c_joinBy l d _ hA m p e a hm hp hE60 hel h14 h15 ha) lG_171 wG_joinBy vG_joinBy hA.1 rfl rfl rfl (Nat.le_of_ble_eq_true rfl) ⟨Nat.le_of_ble_eq_true rfl, Nat.le_of_ble_eq_true rfl⟩ (Nat.le_of_ble_eq_true rfl) (Nat.le_of_ble_eq_true rfl) dG_come_98 (fun v98 g98 h98 => ?_)
        obtain ⟨rfl, hA2, hf2⟩ := h98
        have hm2 := hA2.2.2.1.2 m hm
        refine gh_aload_n C dG_come_101 rfl ?_
        refine gh_get C fG_161 hm2.1 rfl dG_come_102 ?_
        refine gh_iret C hQ rfl dG_come_105 ?_
        exact ⟨by simp [jnS, mbS, st2, stN, st1], hA2, hf2⟩
      · exact absurd c79 (nI_ne1 (by omega))
    · exact absurd h0 c27
  · exact absurd c4 (by decide)
def lrnL (n : Nat) (L : List Int32) (o : Nat → Int32) : Nat → Int32 := L.foldl (fun o x => lrn n o x) o
def cpS (S : SC) (m : Nat) : SC := spV (sv1 S 21 (lrnL (sN S) (gA S m) (S.2.1 21))) 0
theorem lrnL_s (n : Nat) (L : List Int32) (o : Nat → Int32) {i : Nat} {x : Int32} (h : L[i]? = some x) : lrnL n (L.take (i + 1)) o = lrn n (lrnL n (L.take i) o) x := by
  unfold lrnL
  rw [List.take_add_one, h, List.foldl_append]
  rfl
theorem sv1_21 (S : SC) (f h : Nat → Int32) : sv1 (sv1 S 21 f) 21 h = sv1 S 21 h := by
  unfold sv1
  refine Prod.ext rfl (Prod.ext ?_ rfl)
  funext a
  by_cases ha : a = 21
  · simp [ha]
  · simp [ha]
set_option maxRecDepth 100000 in
set_option maxHeartbeats 4000000 in
theorem c_compromise (l : Launch) (d : gh_D) (g : gh_H) {Z : ZC} {S : SC} {n : Nat} (hA : cA g Z S n) (m : Nat) (hm : m < 16) (hP60 : sP S ≤ 60) (hu : S.1 1 m ≤ 20) : gh_C l d mG_compromise (rr 3 0 0) [.ref (Z 1 0), .int (nI m)] g (fun v g1 => v = some (.int (nI (gA S m).length)) ∧ cA g1 Z (cpS S m) n ∧ fr kA g g1) := by
  refine gh_of [some (.ref (Z 1 0)), some (.int (nI m)), none, none] (by decide) rfl (Nat.le_of_ble_eq_true rfl) (by simp [Value.category]) (fun z C hQ => ?_)
  show gh_W l d z 0 [some (.ref (Z 1 0)), some (.int (nI m)), none, none] [] g 0 0
  have gl0 := gl_len (S.2.1 2 m) (S.2.2 0 m) (S.2.2 1 m) hu
  have gl1 := gp_len S m (sP S)
  have gl2 : (gA S m).length = (gl (S.2.1 2 m) (S.2.2 0 m) (S.2.2 1 m) (S.1 1 m)).length + (gp S m (sP S)).length := List.length_append
  have loop : ∀ (c i : Nat) (hd : Nat → Int32) (g1 : gh_H), i + c = (gA S m).length → cA g1 Z (sv1 S 21 (lrnL (sN S) ((gA S m).take i) (S.2.1 21))) n → g1 (22, 0) = some (Z 22 0, .inl (0, 146, .inl (wrl (gA S m) hd))) → fr kA g g1 → gh_W l d z 23 [some (.ref (Z 1 0)), some (.int (nI m)), some (.int (nI (gA S m).length)), some (.int (nI i))] [] g1 0 0 := by
    intro c
    induction c with
    | zero =>
      intro i hd g1 hi hA1 hh1 hf1
      have hi : i = (gA S m).length := by omega
      subst hi
      rw [List.take_length] at hA1
      obtain ⟨ao1, x1, y1, w1, hs1, hsb1, hsc1, hsd1, hse1⟩ := id hA1.2.1
      refine gh_iload_n C dG_compromise_23 rfl ?_
      refine gh_iload_n C dG_compromise_24 rfl ?_
      refine gh_icmp_ge C 47 dG_compromise_25 (by decide) (fun c25 => ?_) (fun c25 => ?_)
      ·
        refine gh_aload_n C dG_compromise_47 rfl ?_
        refine gh_get C fG_12 hA1.1 rfl dG_compromise_48 ?_
        refine gh_iconst C 0 dG_compromise_51 (by decide) ?_
        refine gh_callV C [.int 0] (c_spread l d _ hA1.2.1 hA1.2.2.2.2.2.2.2.2 0 (Nat.zero_le _)) lG_155 wS_spread vS_spread hs1 rfl rfl rfl (Nat.le_of_ble_eq_true rfl) ⟨Nat.le_of_ble_eq_true rfl, Nat.le_of_ble_eq_true rfl⟩ (Nat.le_of_ble_eq_true rfl) (Nat.le_of_ble_eq_true rfl) dG_compromise_52 (fun v52 g52 h52 => ?_)
        obtain ⟨rfl, hp2, hf2⟩ := h52
        have hA2 := hA1.out hp2 (okS_spr _ _ _ hA1.2.2.2.2.2.2.2.2) hf2
        refine gh_iload_n C dG_compromise_55 rfl ?_
        refine gh_iret C hQ rfl dG_compromise_56 ?_
        exact ⟨rfl, hA2, hf1.trans (hf2.weak (fun k h => kS_kA h))⟩
      · exact absurd (nI_le (Nat.le_refl _) (by omega)) c25
    | succ c ih =>
      intro i hd g1 hi hA1 hh1 hf1
      obtain ⟨ao1, x1, y1, w1, hs1, hsb1, hsc1, hsd1, hse1⟩ := id hA1.2.1
      have hlt : i < (gA S m).length := by omega
      obtain ⟨x, hx⟩ : ∃ x, (gA S m)[i]? = some x := ⟨_, List.getElem?_eq_getElem hlt⟩
      have hwx : wrl (gA S m) hd i = x := by unfold wrl; rw [hx]; rfl
      refine gh_iload_n C dG_compromise_23 rfl ?_
      refine gh_iload_n C dG_compromise_24 rfl ?_
      refine gh_icmp_ge C 47 dG_compromise_25 (by decide) (fun c25 => ?_) (fun c25 => ?_)
      · exact absurd c25 (nI_ge hlt (by omega))
      ·
        refine gh_aload_n C dG_compromise_28 rfl ?_
        refine gh_get C fG_12 hA1.1 rfl dG_compromise_29 ?_
        refine gh_aload_n C dG_compromise_32 rfl ?_
        refine gh_get C fG_44 hA1.1 rfl dG_compromise_33 ?_
        refine gh_iload_n C dG_compromise_36 rfl ?_
        refine gh_ialdN C (i) hh1 rfl rfl ⟨by omega, by decide⟩ dG_compromise_37 ?_
        refine gh_ti (x) hwx ?_
        refine gh_callV C [.int x] (c_learn l d _ hA1.2.1 hA1.2.2.2.2.2.2.2.2 x) lG_178 wS_learn vS_learn hs1 rfl rfl rfl (Nat.le_of_ble_eq_true rfl) ⟨Nat.le_of_ble_eq_true rfl, Nat.le_of_ble_eq_true rfl⟩ (Nat.le_of_ble_eq_true rfl) (Nat.le_of_ble_eq_true rfl) dG_compromise_38 (fun v38 g38 h38 => ?_)
        obtain ⟨rfl, hp2, hf2⟩ := h38
        have hA2 := hA1.out hp2 (okS_lrn hA1.2.2.2.2.2.2.2.2 x) hf2
        rw [sv1_21] at hA2
        have e9 : lrnL (sN S) ((gA S m).take (i + 1)) (S.2.1 21) = lrn (sN S) (lrnL (sN S) ((gA S m).take i) (S.2.1 21)) x := lrnL_s _ _ _ hx
        refine gh_iinc C (nI (i + 1)) [some (.ref (Z 1 0)), some (.int (nI m)), some (.int (nI (gA S m).length)), some (.int (nI (i + 1)))] dG_compromise_41 rfl (gh_inc i) rfl ?_
        refine gh_goto C 23 dG_compromise_44 (by decide) ?_
        exact ih (i + 1) hd _ (by omega) (by rw [e9]; exact hA2) (hf2.at rfl hh1) (hf1.trans (hf2.weak (fun k h => kS_kA h)))
  refine gh_iload_n C dG_compromise_0 rfl ?_
  refine gh_callS C [.int (nI m)] (c_isMember l d _ (nI m)) lG_83 wG_isMember sG_isMember rfl rfl (Nat.le_of_ble_eq_true rfl) ⟨Nat.le_of_ble_eq_true rfl, Nat.le_of_ble_eq_true rfl⟩ (Nat.le_of_ble_eq_true rfl) (Nat.le_of_ble_eq_true rfl) dG_compromise_1 (fun v1 g1 h1 => ?_)
  obtain ⟨rfl, hg1⟩ := h1
  subst g1
  rw [if_pos (inn_n hm (by decide))]
  refine gh_if_ne C 15 dG_compromise_4 (by decide) (fun c4 => ?_) (fun c4 => ?_)
  ·
    refine gh_aload_n C dG_compromise_15 rfl ?_
    refine gh_iload_n C dG_compromise_16 rfl ?_
    refine gh_callV C [.int (nI m)] (c_gather l d _ hA m hm hP60 hu) lG_175 wG_gather vG_gather hA.1 rfl rfl rfl (Nat.le_of_ble_eq_true rfl) ⟨Nat.le_of_ble_eq_true rfl, Nat.le_of_ble_eq_true rfl⟩ (Nat.le_of_ble_eq_true rfl) (Nat.le_of_ble_eq_true rfl) dG_compromise_17 (fun v17 g17 h17 => ?_)
    obtain ⟨rfl, hd, rfl⟩ := h17
    have hA1 := hA.he (wrl (gA S m) hd)
    refine gh_istore_n C [some (.ref (Z 1 0)), some (.int (nI m)), some (.int (nI (gA S m).length)), none] dG_compromise_20 rfl (Nat.le_of_ble_eq_true rfl) ?_
    refine gh_iconst C 0 dG_compromise_21 (by decide) ?_
    refine gh_istore_n C [some (.ref (Z 1 0)), some (.int (nI m)), some (.int (nI (gA S m).length)), some (.int 0)] dG_compromise_22 rfl (Nat.le_of_ble_eq_true rfl) ?_
    refine loop (gA S m).length 0 hd _ (by omega) ?_ gh_us (fr.rf.u rfl)
    have e0 : sv1 S 21 (lrnL (sN S) ((gA S m).take 0) (S.2.1 21)) = S := by
      refine Prod.ext rfl (Prod.ext ?_ rfl)
      funext a
      by_cases ha : a = 21
      · simp [sv1, lrnL, ha]
      · simp [sv1, ha]
    rw [e0]
    exact hA1
  · exact absurd c4 (by decide)
