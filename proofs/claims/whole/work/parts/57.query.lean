/-! bitCount, and the calls that only ask -/
def ush (x y : Int32) : Int32 := (x.toUInt32 >>> (y.toUInt32 &&& Int32.toUInt32 31)).toInt32
def bc1 (x : Int32) : Int32 := x - (ush x 1 &&& 1431655765)
def bc2 (x : Int32) : Int32 := (x &&& 858993459) + (ush x 2 &&& 858993459)
def bc3 (x : Int32) : Int32 := (x + ush x 4) &&& 252645135
def bcn (x : Int32) : Int32 :=
  let y := bc3 (bc2 (bc1 x))
  let u := y + ush y 8
  (u + ush u 16) &&& 63
theorem tabO {n : Nat} {x : Int32} (hn : n < 1000) (h : ∀ j, j < n → x ≠ nI j) : x.toInt < 0 ∨ (n : Int) - 1 < x.toInt := by
  rcases pk_ix x (n := n) (by omega) with h2 | h2 | ⟨j, hj, hx⟩
  · exact Or.inl (Int32.lt_iff_toInt_lt.mp h2)
  · have h3 := Int32.le_iff_toInt_le.mp h2
    have h4 : (nI n).toInt = (n : Int) := by
      rw [gh_nn (nI n) (nI_pos (by omega)), nI_clamp (by omega)]
    rw [h4] at h3
    exact Or.inr (by omega)
  · exact absurd hx (h j hj)
theorem kI_265 : Cond.constant "java/lang/Integer" 265 (1431655765 : Int32) ∈ gh_T := gh_in 344 (by decide +kernel) rfl
theorem kI_266 : Cond.constant "java/lang/Integer" 266 (858993459 : Int32) ∈ gh_T := gh_in 345 (by decide +kernel) rfl
theorem kI_267 : Cond.constant "java/lang/Integer" 267 (252645135 : Int32) ∈ gh_T := gh_in 346 (by decide +kernel) rfl
set_option maxRecDepth 100000 in
set_option maxHeartbeats 4000000 in
theorem c_bitCount (l : Launch) (d : gh_D) (g : gh_H) (x : Int32) : gh_C l d mI_bitCount (rr 0 0 0) [.int x] g (fun v g1 => v = some (.int (bcn x)) ∧ g1 = g) := by
  refine gh_of [some (.int x)] (by decide) rfl (Nat.le_of_ble_eq_true rfl) (by simp [Value.category]) (fun z C hQ => ?_)
  show gh_W l d z 0 [some (.int x)] [] g 0 0
  refine gh_iload_n C dI_bitCount_0 rfl ?_
  refine gh_iload_n C dI_bitCount_1 rfl ?_
  refine gh_iconst C 1 dI_bitCount_2 (by decide) ?_
  refine gh_iushr C dI_bitCount_3 ?_
  refine gh_ldcw C kI_265 dI_bitCount_4 ?_
  refine gh_iand C dI_bitCount_7 ?_
  refine gh_isub C dI_bitCount_8 ?_
  refine gh_istore_n C [some (.int (x - ((ush x 1) &&& 1431655765)))] dI_bitCount_9 rfl (Nat.le_of_ble_eq_true rfl) ?_
  refine gh_iload_n C dI_bitCount_10 rfl ?_
  refine gh_ldcw C kI_266 dI_bitCount_11 ?_
  refine gh_iand C dI_bitCount_14 ?_
  refine gh_iload_n C dI_bitCount_15 rfl ?_
  refine gh_iconst C 2 dI_bitCount_16 (by decide) ?_
  refine gh_iushr C dI_bitCount_17 ?_
  refine gh_ldcw C kI_266 dI_bitCount_18 ?_
  refine gh_iand C dI_bitCount_21 ?_
  refine gh_iadd C dI_bitCount_22 ?_
  refine gh_istore_n C [some (.int (((x - ((ush x 1) &&& 1431655765)) &&& 858993459) + ((ush (x - ((ush x 1) &&& 1431655765)) 2) &&& 858993459)))] dI_bitCount_23 rfl (Nat.le_of_ble_eq_true rfl) ?_
  refine gh_iload_n C dI_bitCount_24 rfl ?_
  refine gh_iload_n C dI_bitCount_25 rfl ?_
  refine gh_iconst C 4 dI_bitCount_26 (by decide) ?_
  refine gh_iushr C dI_bitCount_27 ?_
  refine gh_iadd C dI_bitCount_28 ?_
  refine gh_ldcw C kI_267 dI_bitCount_29 ?_
  refine gh_iand C dI_bitCount_32 ?_
  refine gh_istore_n C [some (.int (((((x - ((ush x 1) &&& 1431655765)) &&& 858993459) + ((ush (x - ((ush x 1) &&& 1431655765)) 2) &&& 858993459)) + (ush (((x - ((ush x 1) &&& 1431655765)) &&& 858993459) + ((ush (x - ((ush x 1) &&& 1431655765)) 2) &&& 858993459)) 4)) &&& 252645135))] dI_bitCount_33 rfl (Nat.le_of_ble_eq_true rfl) ?_
  refine gh_iload_n C dI_bitCount_34 rfl ?_
  refine gh_iload_n C dI_bitCount_35 rfl ?_
  refine gh_bipush C 8 dI_bitCount_36 (by decide) ?_
  refine gh_iushr C dI_bitCount_38 ?_
  refine gh_iadd C dI_bitCount_39 ?_
  refine gh_istore_n C [some (.int ((((((x - ((ush x 1) &&& 1431655765)) &&& 858993459) + ((ush (x - ((ush x 1) &&& 1431655765)) 2) &&& 858993459)) + (ush (((x - ((ush x 1) &&& 1431655765)) &&& 858993459) + ((ush (x - ((ush x 1) &&& 1431655765)) 2) &&& 858993459)) 4)) &&& 252645135) + (ush (((((x - ((ush x 1) &&& 1431655765)) &&& 858993459) + ((ush (x - ((ush x 1) &&& 1431655765)) 2) &&& 858993459)) + (ush (((x - ((ush x 1) &&& 1431655765)) &&& 858993459) + ((ush (x - ((ush x 1) &&& 1431655765)) 2) &&& 858993459)) 4)) &&& 252645135) 8)))] dI_bitCount_40 rfl (Nat.le_of_ble_eq_true rfl) ?_
  refine gh_iload_n C dI_bitCount_41 rfl ?_
  refine gh_iload_n C dI_bitCount_42 rfl ?_
  refine gh_bipush C 16 dI_bitCount_43 (by decide) ?_
  refine gh_iushr C dI_bitCount_45 ?_
  refine gh_iadd C dI_bitCount_46 ?_
  refine gh_istore_n C [some (.int (((((((x - ((ush x 1) &&& 1431655765)) &&& 858993459) + ((ush (x - ((ush x 1) &&& 1431655765)) 2) &&& 858993459)) + (ush (((x - ((ush x 1) &&& 1431655765)) &&& 858993459) + ((ush (x - ((ush x 1) &&& 1431655765)) 2) &&& 858993459)) 4)) &&& 252645135) + (ush (((((x - ((ush x 1) &&& 1431655765)) &&& 858993459) + ((ush (x - ((ush x 1) &&& 1431655765)) 2) &&& 858993459)) + (ush (((x - ((ush x 1) &&& 1431655765)) &&& 858993459) + ((ush (x - ((ush x 1) &&& 1431655765)) 2) &&& 858993459)) 4)) &&& 252645135) 8)) + (ush ((((((x - ((ush x 1) &&& 1431655765)) &&& 858993459) + ((ush (x - ((ush x 1) &&& 1431655765)) 2) &&& 858993459)) + (ush (((x - ((ush x 1) &&& 1431655765)) &&& 858993459) + ((ush (x - ((ush x 1) &&& 1431655765)) 2) &&& 858993459)) 4)) &&& 252645135) + (ush (((((x - ((ush x 1) &&& 1431655765)) &&& 858993459) + ((ush (x - ((ush x 1) &&& 1431655765)) 2) &&& 858993459)) + (ush (((x - ((ush x 1) &&& 1431655765)) &&& 858993459) + ((ush (x - ((ush x 1) &&& 1431655765)) 2) &&& 858993459)) 4)) &&& 252645135) 8)) 16)))] dI_bitCount_47 rfl (Nat.le_of_ble_eq_true rfl) ?_
  refine gh_iload_n C dI_bitCount_48 rfl ?_
  refine gh_bipush C 63 dI_bitCount_49 (by decide) ?_
  refine gh_iand C dI_bitCount_51 ?_
  refine gh_iret C hQ rfl dI_bitCount_52 ?_
  exact ⟨rfl, rfl⟩
def hgt (v : Nat) : Nat := if v % 2 = 0 then 0 else if v % 4 = 1 then 1 else if v % 8 = 3 then 2 else if v % 16 = 7 then 3 else 4
theorem hgt_w : ∀ v, v < 31 → bcn (nI v &&& ((nI v + 1) ^^^ (-1))) = nI (hgt v) := by decide +kernel
theorem hgt_le : ∀ v, v < 31 → hgt v ≤ 4 ∧ 2 ^ hgt v ≤ v + 1 := by decide +kernel
set_option maxRecDepth 100000 in
set_option maxHeartbeats 4000000 in
theorem c_heightOf (l : Launch) (d : gh_D) (g : gh_H) (u : Nat) (hu : u < 31) : gh_C l d mG_heightOf (rr 1 0 0) [.int (nI u)] g (fun v g1 => v = some (.int (nI (hgt u))) ∧ g1 = g) := by
  refine gh_of [some (.int (nI u))] (by decide) rfl (Nat.le_of_ble_eq_true rfl) (by simp [Value.category]) (fun z C hQ => ?_)
  show gh_W l d z 0 [some (.int (nI u))] [] g 0 0
  refine gh_iload_n C dG_heightOf_0 rfl ?_
  refine gh_iload_n C dG_heightOf_1 rfl ?_
  refine gh_iconst C 1 dG_heightOf_2 (by decide) ?_
  refine gh_iadd C dG_heightOf_3 ?_
  refine gh_iconst C (-1) dG_heightOf_4 (by decide) ?_
  refine gh_ixor C dG_heightOf_5 ?_
  refine gh_iand C dG_heightOf_6 ?_
  refine gh_callS C [.int ((nI u) &&& (((nI u) + 1) ^^^ (-1)))] (c_bitCount l d _ (nI u &&& ((nI u + 1) ^^^ (-1)))) lG_207 wI_bitCount sI_bitCount rfl rfl (Nat.le_of_ble_eq_true rfl) ⟨Nat.le_of_ble_eq_true rfl, Nat.le_of_ble_eq_true rfl⟩ (Nat.le_of_ble_eq_true rfl) (Nat.le_of_ble_eq_true rfl) dG_heightOf_7 (fun v7 g7 h7 => ?_)
  obtain ⟨rfl, rfl⟩ := h7
  rw [hgt_w u hu]
  refine gh_iret C hQ rfl dG_heightOf_10 ?_
  exact ⟨rfl, rfl⟩
def qHas (S : SC) (x : Int32) : Bool := inn 16 x && decide (S.2.1 2 x.toNatClampNeg ≠ -1)
set_option maxRecDepth 100000 in
set_option maxHeartbeats 4000000 in
theorem c_has (l : Launch) (d : gh_D) (g : gh_H) {Z : ZC} {S : SC} (hA : cA g Z S (sE S)) (x : Int32) : gh_C l d mG_has (rr 1 0 0) [.ref (Z 1 0), .int x] g (fun v g1 => v = some (.int (if qHas S x = true then 1 else 0)) ∧ g1 = g) := by
  obtain ⟨⟨qm, hqm, hqm2⟩, hM2⟩ := id hA.2.2.1
  refine gh_of [some (.ref (Z 1 0)), some (.int x)] (by decide) rfl (Nat.le_of_ble_eq_true rfl) (by simp [Value.category]) (fun z C hQ => ?_)
  show gh_W l d z 0 [some (.ref (Z 1 0)), some (.int x)] [] g 0 0
  refine gh_iload_n C dG_has_0 rfl ?_
  refine gh_callS C [.int x] (c_isMember l d _ x) lG_83 wG_isMember sG_isMember rfl rfl (Nat.le_of_ble_eq_true rfl) ⟨Nat.le_of_ble_eq_true rfl, Nat.le_of_ble_eq_true rfl⟩ (Nat.le_of_ble_eq_true rfl) (Nat.le_of_ble_eq_true rfl) dG_has_1 (fun v1 g1 h1 => ?_)
  obtain ⟨rfl, hg1⟩ := h1
  subst g1
  refine gh_if_eq C 24 dG_has_4 (by decide) (fun c4 => ?_) (fun c4 => ?_)
  ·
    have e4 : ¬ inn 16 x = true := fun h => by rw [if_pos h] at c4; exact absurd c4 (by decide)
    have hz : ¬ qHas S x = true := by simp [qHas, e4]
    refine gh_iconst C 0 dG_has_24 (by decide) ?_
    refine gh_zret C hQ rfl (by simp) dG_has_25 ?_
    first | exact ⟨by rw [if_pos hz], rfl⟩ | exact ⟨by rw [if_neg hz], rfl⟩
  ·
    have e4 : inn 16 x = true := by
      by_cases h : inn 16 x = true
      · exact h
      · rw [if_neg h] at c4; exact absurd rfl c4
    obtain ⟨m, hm, hx⟩ := inn_of (by decide) e4
    have hcl : x.toNatClampNeg = m := by rw [hx]; exact nI_clamp (by omega)
    have hmm := hM2 m hm
    refine gh_aload_n C dG_has_7 rfl ?_
    refine gh_get C fG_18 hA.1 rfl dG_has_8 ?_
    refine gh_iload_n C dG_has_11 rfl ?_
    refine gh_aaldN C (m) hqm rfl hx ⟨hm, by decide⟩ dG_has_12 ?_
    refine gh_tr (some (Z 8 m)) (hqm2 m hm) ?_
    refine gh_get C fG_190 hmm.1 rfl dG_has_13 ?_
    refine gh_iconst C (-1) dG_has_16 (by decide) ?_
    refine gh_icmp_eq C 24 dG_has_17 (by decide) (fun c17 => ?_) (fun c17 => ?_)
    ·
      have hz : ¬ qHas S x = true := by simp [qHas, hcl, c17]
      refine gh_iconst C 0 dG_has_24 (by decide) ?_
      refine gh_zret C hQ rfl (by simp) dG_has_25 ?_
      first | exact ⟨by rw [if_pos hz], rfl⟩ | exact ⟨by rw [if_neg hz], rfl⟩
    ·
      have hz : qHas S x = true := by simp [qHas, e4, hcl, c17]
      refine gh_iconst C 1 dG_has_20 (by decide) ?_
      refine gh_goto C 25 dG_has_21 (by decide) ?_
      refine gh_zret C hQ rfl (by simp) dG_has_25 ?_
      first | exact ⟨by rw [if_pos hz], rfl⟩ | exact ⟨by rw [if_neg hz], rfl⟩
def qMem (S : SC) (x y : Int32) : Int32 := if inn 16 x = true then (if y = 0 then S.2.1 0 x.toNatClampNeg else if y = 1 then S.2.1 1 x.toNatClampNeg else if y = 2 then nI (gA S x.toNatClampNeg).length else if y = 3 then S.2.1 3 x.toNatClampNeg else -1) else -1
set_option maxRecDepth 100000 in
set_option maxHeartbeats 4000000 in
theorem c_member (l : Launch) (d : gh_D) (g : gh_H) {Z : ZC} {S : SC} (hA : cA g Z S (sE S)) (x y : Int32) (hP60 : sP S ≤ 60) (hu : ∀ m, m < 16 → S.1 1 m ≤ 20) : gh_C l d mG_member (rr 2 0 0) [.ref (Z 1 0), .int x, .int y] g (fun v g1 => v = some (.int (qMem S x y)) ∧ cA g1 Z S (sE S) ∧ fr kA g g1) := by
  obtain ⟨⟨qm, hqm, hqm2⟩, hM2⟩ := id hA.2.2.1
  refine gh_of [some (.ref (Z 1 0)), some (.int x), some (.int y), none] (by decide) rfl (Nat.le_of_ble_eq_true rfl) (by simp [Value.category]) (fun z C hQ => ?_)
  show gh_W l d z 0 [some (.ref (Z 1 0)), some (.int x), some (.int y), none] [] g 0 0
  refine gh_iload_n C dG_member_0 rfl ?_
  refine gh_callS C [.int x] (c_isMember l d _ x) lG_83 wG_isMember sG_isMember rfl rfl (Nat.le_of_ble_eq_true rfl) ⟨Nat.le_of_ble_eq_true rfl, Nat.le_of_ble_eq_true rfl⟩ (Nat.le_of_ble_eq_true rfl) (Nat.le_of_ble_eq_true rfl) dG_member_1 (fun v1 g1 h1 => ?_)
  obtain ⟨rfl, hg1⟩ := h1
  subst g1
  refine gh_if_ne C 9 dG_member_4 (by decide) (fun c4 => ?_) (fun c4 => ?_)
  ·
    have e4 : inn 16 x = true := by
      by_cases h : inn 16 x = true
      · exact h
      · rw [if_neg h] at c4; exact absurd rfl c4
    obtain ⟨m, hm, hx⟩ := inn_of (by decide) e4
    have hcl : x.toNatClampNeg = m := by rw [hx]; exact nI_clamp (by omega)
    have hmm := hM2 m hm
    refine gh_aload_n C dG_member_9 rfl ?_
    refine gh_get C fG_18 hA.1 rfl dG_member_10 ?_
    refine gh_iload_n C dG_member_13 rfl ?_
    refine gh_aaldN C (m) hqm rfl hx ⟨hm, by decide⟩ dG_member_14 ?_
    refine gh_tr (some (Z 8 m)) (hqm2 m hm) ?_
    refine gh_astore_n C [some (.ref (Z 1 0)), some (.int x), some (.int y), some (.ref (Z 8 m))] dG_member_15 rfl (Nat.le_of_ble_eq_true rfl) ?_
    refine gh_iload_n C dG_member_16 rfl ?_
    by_cases t17_0 : y = 0
    · rw [t17_0]
      refine gh_tabIn C 48 dG_member_17 (by decide) (by decide) rfl (by decide) ?_
      refine gh_aload_n C dG_member_48 rfl ?_
      refine gh_get C fG_161 hmm.1 rfl dG_member_49 ?_
      refine gh_iret C hQ rfl dG_member_52 ?_
      exact ⟨by unfold qMem; rw [if_pos e4, hcl]; simp [t17_0], hA, fr.rf⟩
    by_cases t17_1 : y = 1
    · rw [t17_1]
      refine gh_tabIn C 53 dG_member_17 (by decide) (by decide) rfl (by decide) ?_
      refine gh_aload_n C dG_member_53 rfl ?_
      refine gh_get C fG_110 hmm.1 rfl dG_member_54 ?_
      refine gh_iret C hQ rfl dG_member_57 ?_
      exact ⟨by unfold qMem; rw [if_pos e4, hcl]; simp [t17_1], hA, fr.rf⟩
    by_cases t17_2 : y = 2
    · rw [t17_2]
      refine gh_tabIn C 58 dG_member_17 (by decide) (by decide) rfl (by decide) ?_
      refine gh_aload_n C dG_member_58 rfl ?_
      refine gh_iload_n C dG_member_59 rfl ?_
      rw [hx]
      refine gh_callV C [.int (nI m)] (c_gather l d _ hA m hm hP60 (hu m hm)) lG_175 wG_gather vG_gather hA.1 rfl rfl rfl (Nat.le_of_ble_eq_true rfl) ⟨Nat.le_of_ble_eq_true rfl, Nat.le_of_ble_eq_true rfl⟩ (Nat.le_of_ble_eq_true rfl) (Nat.le_of_ble_eq_true rfl) dG_member_60 (fun v60 g60 h60 => ?_)
      obtain ⟨rfl, hd, rfl⟩ := h60
      have hA1 := hA.he (wrl (gA S m) hd)
      refine gh_iret C hQ rfl dG_member_63 ?_
      exact ⟨by unfold qMem; rw [if_pos e4, hcl]; simp [t17_2], hA1, fr.rf.u rfl⟩
    by_cases t17_3 : y = 3
    · rw [t17_3]
      refine gh_tabIn C 64 dG_member_17 (by decide) (by decide) rfl (by decide) ?_
      refine gh_aload_n C dG_member_64 rfl ?_
      refine gh_get C fG_181 hmm.1 rfl dG_member_65 ?_
      refine gh_iret C hQ rfl dG_member_68 ?_
      exact ⟨by unfold qMem; rw [if_pos e4, hcl]; simp [t17_3], hA, fr.rf⟩
    refine gh_tabOut C 69 dG_member_17 (tabO (n := 4) (by decide) (fun j hj hx => ?_)) (by decide) ?_
    · have hj9 : j = 0 ∨ j = 1 ∨ j = 2 ∨ j = 3 := by omega
      rcases hj9 with rfl | rfl | rfl | rfl
      · exact t17_0 hx
      · exact t17_1 hx
      · exact t17_2 hx
      · exact t17_3 hx
    refine gh_iconst C (-1) dG_member_69 (by decide) ?_
    refine gh_iret C hQ rfl dG_member_70 ?_
    exact ⟨by unfold qMem; rw [if_pos e4, hcl]; simp [t17_0, t17_1, t17_2, t17_3], hA, fr.rf⟩
  ·
    have e4 : ¬ inn 16 x = true := fun h => by rw [if_pos h] at c4; exact absurd c4 (by decide)
    refine gh_iconst C (-1) dG_member_7 (by decide) ?_
    refine gh_iret C hQ rfl dG_member_8 ?_
    exact ⟨by unfold qMem; rw [if_neg e4], hA, fr.rf⟩
def qEp (S : SC) (x y : Int32) : Int32 := if inn (sE S) x = true then (if y = 0 then nI (S.1 2 x.toNatClampNeg) else if y = 1 then S.2.1 4 x.toNatClampNeg else if y = 2 then S.2.1 6 x.toNatClampNeg else if y = 3 then S.2.1 7 x.toNatClampNeg else if y = 4 then S.2.1 8 x.toNatClampNeg else if y = 5 then S.2.1 9 x.toNatClampNeg else if y = 6 then S.2.1 10 x.toNatClampNeg else -1) else -1
set_option maxRecDepth 100000 in
set_option maxHeartbeats 4000000 in
theorem c_epoch (l : Launch) (d : gh_D) (g : gh_H) {Z : ZC} {S : SC} (hA : cA g Z S (sE S)) (x y : Int32) (hE60 : sE S ≤ 60) : gh_C l d mG_epoch (rr 1 0 0) [.ref (Z 1 0), .int x, .int y] g (fun v g1 => v = some (.int (qEp S x y)) ∧ g1 = g) := by
  obtain ⟨⟨qe, hqe, hqe2⟩, hE2⟩ := id hA.2.2.2.1
  refine gh_of [some (.ref (Z 1 0)), some (.int x), some (.int y), none] (by decide) rfl (Nat.le_of_ble_eq_true rfl) (by simp [Value.category]) (fun z C hQ => ?_)
  show gh_W l d z 0 [some (.ref (Z 1 0)), some (.int x), some (.int y), none] [] g 0 0
  refine gh_aload_n C dG_epoch_0 rfl ?_
  refine gh_iload_n C dG_epoch_1 rfl ?_
  refine gh_callV C [.int x] (c_isEpoch l d _ hA.1 x) lG_184 wG_isEpoch vG_isEpoch hA.1 rfl rfl rfl (Nat.le_of_ble_eq_true rfl) ⟨Nat.le_of_ble_eq_true rfl, Nat.le_of_ble_eq_true rfl⟩ (Nat.le_of_ble_eq_true rfl) (Nat.le_of_ble_eq_true rfl) dG_epoch_2 (fun v2 g2 h2 => ?_)
  obtain ⟨rfl, hg2⟩ := h2
  subst g2
  refine gh_if_ne C 10 dG_epoch_5 (by decide) (fun c5 => ?_) (fun c5 => ?_)
  ·
    have e5 : inn (sE S) x = true := by
      by_cases h : inn (sE S) x = true
      · exact h
      · rw [if_neg h] at c5; exact absurd rfl c5
    obtain ⟨e, he, hx⟩ := inn_of (by omega) e5
    have hcl : x.toNatClampNeg = e := by rw [hx]; exact nI_clamp (by omega)
    have hw := hE2 e he
    refine gh_aload_n C dG_epoch_10 rfl ?_
    refine gh_get C fG_24 hA.1 rfl dG_epoch_11 ?_
    refine gh_iload_n C dG_epoch_14 rfl ?_
    refine gh_aaldN C (e) hqe rfl hx ⟨by omega, by decide⟩ dG_epoch_15 ?_
    refine gh_tr (some (Z 12 e)) (hqe2 e he) ?_
    refine gh_astore_n C [some (.ref (Z 1 0)), some (.int x), some (.int y), some (.ref (Z 12 e))] dG_epoch_16 rfl (Nat.le_of_ble_eq_true rfl) ?_
    refine gh_iload_n C dG_epoch_17 rfl ?_
    by_cases t18_0 : y = 0
    · rw [t18_0]
      refine gh_tabIn C 60 dG_epoch_18 (by decide) (by decide) rfl (by decide) ?_
      refine gh_aload_n C dG_epoch_60 rfl ?_
      refine gh_get C fG_60 hw.1 rfl dG_epoch_61 ?_
      refine gh_get C fG_212 hw.2.1 rfl dG_epoch_64 ?_
      refine gh_iret C hQ rfl dG_epoch_67 ?_
      exact ⟨by unfold qEp; rw [if_pos e5, hcl]; simp [t18_0], rfl⟩
    by_cases t18_1 : y = 1
    · rw [t18_1]
      refine gh_tabIn C 68 dG_epoch_18 (by decide) (by decide) rfl (by decide) ?_
      refine gh_aload_n C dG_epoch_68 rfl ?_
      refine gh_get C fG_215 hw.1 rfl dG_epoch_69 ?_
      refine gh_iret C hQ rfl dG_epoch_72 ?_
      exact ⟨by unfold qEp; rw [if_pos e5, hcl]; simp [t18_1], rfl⟩
    by_cases t18_2 : y = 2
    · rw [t18_2]
      refine gh_tabIn C 73 dG_epoch_18 (by decide) (by decide) rfl (by decide) ?_
      refine gh_aload_n C dG_epoch_73 rfl ?_
      refine gh_get C fG_218 hw.1 rfl dG_epoch_74 ?_
      refine gh_iret C hQ rfl dG_epoch_77 ?_
      exact ⟨by unfold qEp; rw [if_pos e5, hcl]; simp [t18_2], rfl⟩
    by_cases t18_3 : y = 3
    · rw [t18_3]
      refine gh_tabIn C 78 dG_epoch_18 (by decide) (by decide) rfl (by decide) ?_
      refine gh_aload_n C dG_epoch_78 rfl ?_
      refine gh_get C fG_132 hw.1 rfl dG_epoch_79 ?_
      refine gh_iret C hQ rfl dG_epoch_82 ?_
      exact ⟨by unfold qEp; rw [if_pos e5, hcl]; simp [t18_3], rfl⟩
    by_cases t18_4 : y = 4
    · rw [t18_4]
      refine gh_tabIn C 83 dG_epoch_18 (by decide) (by decide) rfl (by decide) ?_
      refine gh_aload_n C dG_epoch_83 rfl ?_
      refine gh_get C fG_135 hw.1 rfl dG_epoch_84 ?_
      refine gh_iret C hQ rfl dG_epoch_87 ?_
      exact ⟨by unfold qEp; rw [if_pos e5, hcl]; simp [t18_4], rfl⟩
    by_cases t18_5 : y = 5
    · rw [t18_5]
      refine gh_tabIn C 88 dG_epoch_18 (by decide) (by decide) rfl (by decide) ?_
      refine gh_aload_n C dG_epoch_88 rfl ?_
      refine gh_get C fG_138 hw.1 rfl dG_epoch_89 ?_
      refine gh_iret C hQ rfl dG_epoch_92 ?_
      exact ⟨by unfold qEp; rw [if_pos e5, hcl]; simp [t18_5], rfl⟩
    by_cases t18_6 : y = 6
    · rw [t18_6]
      refine gh_tabIn C 93 dG_epoch_18 (by decide) (by decide) rfl (by decide) ?_
      refine gh_aload_n C dG_epoch_93 rfl ?_
      refine gh_get C fG_221 hw.1 rfl dG_epoch_94 ?_
      refine gh_iret C hQ rfl dG_epoch_97 ?_
      exact ⟨by unfold qEp; rw [if_pos e5, hcl]; simp [t18_6], rfl⟩
    refine gh_tabOut C 98 dG_epoch_18 (tabO (n := 7) (by decide) (fun j hj hx => ?_)) (by decide) ?_
    · have hj9 : j = 0 ∨ j = 1 ∨ j = 2 ∨ j = 3 ∨ j = 4 ∨ j = 5 ∨ j = 6 := by omega
      rcases hj9 with rfl | rfl | rfl | rfl | rfl | rfl | rfl
      · exact t18_0 hx
      · exact t18_1 hx
      · exact t18_2 hx
      · exact t18_3 hx
      · exact t18_4 hx
      · exact t18_5 hx
      · exact t18_6 hx
    refine gh_iconst C (-1) dG_epoch_98 (by decide) ?_
    refine gh_iret C hQ rfl dG_epoch_99 ?_
    exact ⟨by unfold qEp; rw [if_pos e5, hcl]; simp [t18_0, t18_1, t18_2, t18_3, t18_4, t18_5, t18_6], rfl⟩
  ·
    have e5 : ¬ inn (sE S) x = true := fun h => by rw [if_pos h] at c5; exact absurd c5 (by decide)
    refine gh_iconst C (-1) dG_epoch_8 (by decide) ?_
    refine gh_iret C hQ rfl dG_epoch_9 ?_
    exact ⟨by unfold qEp; rw [if_neg e5], rfl⟩
set_option maxRecDepth 100000 in
set_option maxHeartbeats 4000000 in
theorem c_epochs (l : Launch) (d : gh_D) (g : gh_H) {Z : ZC} {S : SC} (hA : cA g Z S (sE S)) : gh_C l d mG_epochs (rr 0 0 0) [.ref (Z 1 0)] g (fun v g1 => v = some (.int (nI (sE S))) ∧ g1 = g) := by
  refine gh_of [some (.ref (Z 1 0))] (by decide) rfl (Nat.le_of_ble_eq_true rfl) (by simp [Value.category]) (fun z C hQ => ?_)
  show gh_W l d z 0 [some (.ref (Z 1 0))] [] g 0 0
  refine gh_aload_n C dG_epochs_0 rfl ?_
  refine gh_get C fG_76 hA.1 rfl dG_epochs_1 ?_
  refine gh_iret C hQ rfl dG_epochs_4 ?_
  exact ⟨rfl, rfl⟩
set_option maxRecDepth 100000 in
set_option maxHeartbeats 4000000 in
theorem c_waiting (l : Launch) (d : gh_D) (g : gh_H) {Z : ZC} {S : SC} (hA : cA g Z S (sE S)) : gh_C l d mG_waiting (rr 0 0 0) [.ref (Z 1 0)] g (fun v g1 => v = some (.int (nI (sQ S))) ∧ g1 = g) := by
  refine gh_of [some (.ref (Z 1 0))] (by decide) rfl (Nat.le_of_ble_eq_true rfl) (by simp [Value.category]) (fun z C hQ => ?_)
  show gh_W l d z 0 [some (.ref (Z 1 0))] [] g 0 0
  refine gh_aload_n C dG_waiting_0 rfl ?_
  refine gh_get C fG_152 hA.1 rfl dG_waiting_1 ?_
  refine gh_iret C hQ rfl dG_waiting_4 ?_
  exact ⟨rfl, rfl⟩
def outQ (S : SC) (x : Int32) : Bool := isO (sN S) (S.2.1 21) x
def qKn (S : SC) (x : Int32) : Bool := inn (sE S) x && outQ S (S.2.1 5 x.toNatClampNeg)
def qOp (S : SC) (x y : Int32) : Bool := inn (sE S) x && outQ S (tkey (S.1 2 x.toNatClampNeg) (S.2.2 2 x.toNatClampNeg) y)
set_option maxRecDepth 100000 in
set_option maxHeartbeats 4000000 in
theorem c_isKnown (l : Launch) (d : gh_D) (g : gh_H) {Z : ZC} {S : SC} (hA : cA g Z S (sE S)) (x : Int32) (hE60 : sE S ≤ 60) : gh_C l d mG_isKnown (rr 1 0 0) [.ref (Z 1 0), .int x] g (fun v g1 => v = some (.int (if qKn S x = true then 1 else 0)) ∧ g1 = g) := by
  obtain ⟨⟨qe, hqe, hqe2⟩, hE2⟩ := id hA.2.2.2.1
  obtain ⟨ao0, x0, y0, w0, hs0, hsb0, hsc0, hsd0, hse0⟩ := id hA.2.1
  refine gh_of [some (.ref (Z 1 0)), some (.int x)] (by decide) rfl (Nat.le_of_ble_eq_true rfl) (by simp [Value.category]) (fun z C hQ => ?_)
  show gh_W l d z 0 [some (.ref (Z 1 0)), some (.int x)] [] g 0 0
  refine gh_aload_n C dG_isKnown_0 rfl ?_
  refine gh_iload_n C dG_isKnown_1 rfl ?_
  refine gh_callV C [.int x] (c_isEpoch l d _ hA.1 x) lG_184 wG_isEpoch vG_isEpoch hA.1 rfl rfl rfl (Nat.le_of_ble_eq_true rfl) ⟨Nat.le_of_ble_eq_true rfl, Nat.le_of_ble_eq_true rfl⟩ (Nat.le_of_ble_eq_true rfl) (Nat.le_of_ble_eq_true rfl) dG_isKnown_2 (fun v2 g2 h2 => ?_)
  obtain ⟨rfl, hg2⟩ := h2
  subst g2
  refine gh_if_eq C 31 dG_isKnown_5 (by decide) (fun c5 => ?_) (fun c5 => ?_)
  ·
    have e5 : ¬ inn (sE S) x = true := fun h => by rw [if_pos h] at c5; exact absurd c5 (by decide)
    have hz : ¬ qKn S x = true := by simp [qKn, e5]
    refine gh_iconst C 0 dG_isKnown_31 (by decide) ?_
    refine gh_zret C hQ rfl (by simp) dG_isKnown_32 ?_
    first | exact ⟨by rw [if_pos hz], rfl⟩ | exact ⟨by rw [if_neg hz], rfl⟩
  ·
    have e5 : inn (sE S) x = true := by
      by_cases h : inn (sE S) x = true
      · exact h
      · rw [if_neg h] at c5; exact absurd rfl c5
    obtain ⟨e, he, hx⟩ := inn_of (by omega) e5
    have hcl : x.toNatClampNeg = e := by rw [hx]; exact nI_clamp (by omega)
    have hw := hE2 e he
    refine gh_aload_n C dG_isKnown_8 rfl ?_
    refine gh_get C fG_12 hA.1 rfl dG_isKnown_9 ?_
    refine gh_aload_n C dG_isKnown_12 rfl ?_
    refine gh_get C fG_24 hA.1 rfl dG_isKnown_13 ?_
    refine gh_iload_n C dG_isKnown_16 rfl ?_
    refine gh_aaldN C (e) hqe rfl hx ⟨by omega, by decide⟩ dG_isKnown_17 ?_
    refine gh_tr (some (Z 12 e)) (hqe2 e he) ?_
    refine gh_get C fG_72 hw.1 rfl dG_isKnown_18 ?_
    refine gh_callV C [.int (S.2.1 5 e)] (c_isOut l d _ hA.2.1 hA.2.2.2.2.2.2.2.2 (S.2.1 5 e)) lG_224 wS_isOut vS_isOut hs0 rfl rfl rfl (Nat.le_of_ble_eq_true rfl) ⟨Nat.le_of_ble_eq_true rfl, Nat.le_of_ble_eq_true rfl⟩ (Nat.le_of_ble_eq_true rfl) (Nat.le_of_ble_eq_true rfl) dG_isKnown_21 (fun v21 g21 h21 => ?_)
    obtain ⟨rfl, hg21⟩ := h21
    subst g21
    rw [show isO (sN S) (S.2.1 21) (S.2.1 5 e) = outQ S (S.2.1 5 e) from rfl]
    refine gh_if_eq C 31 dG_isKnown_24 (by decide) (fun c24 => ?_) (fun c24 => ?_)
    ·
      have e24 : ¬ outQ S (S.2.1 5 e) = true := fun h => by rw [if_pos h] at c24; exact absurd c24 (by decide)
      have hz : ¬ qKn S x = true := by simp [qKn, hcl, e24]
      refine gh_iconst C 0 dG_isKnown_31 (by decide) ?_
      refine gh_zret C hQ rfl (by simp) dG_isKnown_32 ?_
      first | exact ⟨by rw [if_pos hz], rfl⟩ | exact ⟨by rw [if_neg hz], rfl⟩
    ·
      have e24 : outQ S (S.2.1 5 e) = true := by
        by_cases h : outQ S (S.2.1 5 e) = true
        · exact h
        · rw [if_neg h] at c24; exact absurd rfl c24
      have hz : qKn S x = true := by simp [qKn, e5, hcl, e24]
      refine gh_iconst C 1 dG_isKnown_27 (by decide) ?_
      refine gh_goto C 32 dG_isKnown_28 (by decide) ?_
      refine gh_zret C hQ rfl (by simp) dG_isKnown_32 ?_
      first | exact ⟨by rw [if_pos hz], rfl⟩ | exact ⟨by rw [if_neg hz], rfl⟩
set_option maxRecDepth 100000 in
set_option maxHeartbeats 4000000 in
theorem c_isOpen (l : Launch) (d : gh_D) (g : gh_H) {Z : ZC} {S : SC} (hA : cA g Z S (sE S)) (x y : Int32) (hE60 : sE S ≤ 60) : gh_C l d mG_isOpen (rr 2 0 0) [.ref (Z 1 0), .int x, .int y] g (fun v g1 => v = some (.int (if qOp S x y = true then 1 else 0)) ∧ g1 = g) := by
  obtain ⟨⟨qe, hqe, hqe2⟩, hE2⟩ := id hA.2.2.2.1
  obtain ⟨ao0, x0, y0, w0, hs0, hsb0, hsc0, hsd0, hse0⟩ := id hA.2.1
  refine gh_of [some (.ref (Z 1 0)), some (.int x), some (.int y)] (by decide) rfl (Nat.le_of_ble_eq_true rfl) (by simp [Value.category]) (fun z C hQ => ?_)
  show gh_W l d z 0 [some (.ref (Z 1 0)), some (.int x), some (.int y)] [] g 0 0
  refine gh_aload_n C dG_isOpen_0 rfl ?_
  refine gh_iload_n C dG_isOpen_1 rfl ?_
  refine gh_callV C [.int x] (c_isEpoch l d _ hA.1 x) lG_184 wG_isEpoch vG_isEpoch hA.1 rfl rfl rfl (Nat.le_of_ble_eq_true rfl) ⟨Nat.le_of_ble_eq_true rfl, Nat.le_of_ble_eq_true rfl⟩ (Nat.le_of_ble_eq_true rfl) (Nat.le_of_ble_eq_true rfl) dG_isOpen_2 (fun v2 g2 h2 => ?_)
  obtain ⟨rfl, hg2⟩ := h2
  subst g2
  refine gh_if_eq C 35 dG_isOpen_5 (by decide) (fun c5 => ?_) (fun c5 => ?_)
  ·
    have e5 : ¬ inn (sE S) x = true := fun h => by rw [if_pos h] at c5; exact absurd c5 (by decide)
    have hz : ¬ qOp S x y = true := by simp [qOp, e5]
    refine gh_iconst C 0 dG_isOpen_35 (by decide) ?_
    refine gh_zret C hQ rfl (by simp) dG_isOpen_36 ?_
    first | exact ⟨by rw [if_pos hz], rfl⟩ | exact ⟨by rw [if_neg hz], rfl⟩
  ·
    have e5 : inn (sE S) x = true := by
      by_cases h : inn (sE S) x = true
      · exact h
      · rw [if_neg h] at c5; exact absurd rfl c5
    obtain ⟨e, he, hx⟩ := inn_of (by omega) e5
    have hcl : x.toNatClampNeg = e := by rw [hx]; exact nI_clamp (by omega)
    have hw := hE2 e he
    refine gh_aload_n C dG_isOpen_8 rfl ?_
    refine gh_get C fG_12 hA.1 rfl dG_isOpen_9 ?_
    refine gh_aload_n C dG_isOpen_12 rfl ?_
    refine gh_get C fG_24 hA.1 rfl dG_isOpen_13 ?_
    refine gh_iload_n C dG_isOpen_16 rfl ?_
    refine gh_aaldN C (e) hqe rfl hx ⟨by omega, by decide⟩ dG_isOpen_17 ?_
    refine gh_tr (some (Z 12 e)) (hqe2 e he) ?_
    refine gh_get C fG_60 hw.1 rfl dG_isOpen_18 ?_
    refine gh_iload_n C dG_isOpen_21 rfl ?_
    refine gh_callV C [.int y] (c_keyOf l d _ hw.2 y) lG_187 wT_keyOf vT_keyOf hw.2.1 rfl rfl rfl (Nat.le_of_ble_eq_true rfl) ⟨Nat.le_of_ble_eq_true rfl, Nat.le_of_ble_eq_true rfl⟩ (Nat.le_of_ble_eq_true rfl) (Nat.le_of_ble_eq_true rfl) dG_isOpen_22 (fun v22 g22 h22 => ?_)
    obtain ⟨rfl, hg22⟩ := h22
    subst g22
    refine gh_callV C [.int (tkey (S.1 2 e) (S.2.2 2 e) y)] (c_isOut l d _ hA.2.1 hA.2.2.2.2.2.2.2.2 (tkey (S.1 2 e) (S.2.2 2 e) y)) lG_224 wS_isOut vS_isOut hs0 rfl rfl rfl (Nat.le_of_ble_eq_true rfl) ⟨Nat.le_of_ble_eq_true rfl, Nat.le_of_ble_eq_true rfl⟩ (Nat.le_of_ble_eq_true rfl) (Nat.le_of_ble_eq_true rfl) dG_isOpen_25 (fun v25 g25 h25 => ?_)
    obtain ⟨rfl, hg25⟩ := h25
    subst g25
    rw [show isO (sN S) (S.2.1 21) (tkey (S.1 2 e) (S.2.2 2 e) y) = outQ S (tkey (S.1 2 e) (S.2.2 2 e) y) from rfl]
    refine gh_if_eq C 35 dG_isOpen_28 (by decide) (fun c28 => ?_) (fun c28 => ?_)
    ·
      have e28 : ¬ outQ S (tkey (S.1 2 e) (S.2.2 2 e) y) = true := fun h => by rw [if_pos h] at c28; exact absurd c28 (by decide)
      have hz : ¬ qOp S x y = true := by simp [qOp, hcl, e28]
      refine gh_iconst C 0 dG_isOpen_35 (by decide) ?_
      refine gh_zret C hQ rfl (by simp) dG_isOpen_36 ?_
      first | exact ⟨by rw [if_pos hz], rfl⟩ | exact ⟨by rw [if_neg hz], rfl⟩
    ·
      have e28 : outQ S (tkey (S.1 2 e) (S.2.2 2 e) y) = true := by
        by_cases h : outQ S (tkey (S.1 2 e) (S.2.2 2 e) y) = true
        · exact h
        · rw [if_neg h] at c28; exact absurd rfl c28
      have hz : qOp S x y = true := by simp [qOp, e5, hcl, e28]
      refine gh_iconst C 1 dG_isOpen_31 (by decide) ?_
      refine gh_goto C 36 dG_isOpen_32 (by decide) ?_
      refine gh_zret C hQ rfl (by simp) dG_isOpen_36 ?_
      first | exact ⟨by rw [if_pos hz], rfl⟩ | exact ⟨by rw [if_neg hz], rfl⟩
