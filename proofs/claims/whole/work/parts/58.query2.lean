/-! holds, node, known -/
def qHo (S : SC) (x y : Int32) : Bool := inn 16 x && inn (sE S) (S.2.1 0 x.toNatClampNeg) && decide (tkey (S.1 2 (S.2.1 0 x.toNatClampNeg).toNatClampNeg) (S.2.2 2 (S.2.1 0 x.toNatClampNeg).toNatClampNeg) y ≠ -1) && (gA S x.toNatClampNeg).contains (tkey (S.1 2 (S.2.1 0 x.toNatClampNeg).toNatClampNeg) (S.2.2 2 (S.2.1 0 x.toNatClampNeg).toNatClampNeg) y)
theorem con_at {L : List Int32} {i : Nat} {x : Int32} (h : L[i]? = some x) : L.contains x = true := by
  rw [List.contains_iff_mem]; exact List.mem_of_getElem? h
theorem con_no {L : List Int32} {x : Int32} (h : ∀ i, i < L.length → L[i]? ≠ some x) : ¬ L.contains x = true := by
  rw [List.contains_iff_mem]
  intro hm
  obtain ⟨i, hi, he⟩ := List.getElem_of_mem hm
  exact h i hi (by rw [List.getElem?_eq_getElem hi, he])
set_option maxRecDepth 100000 in
set_option maxHeartbeats 4000000 in
theorem c_holds (l : Launch) (d : gh_D) (g : gh_H) {Z : ZC} {S : SC} (hA : cA g Z S (sE S)) (x y : Int32) (hE60 : sE S ≤ 60) (hP60 : sP S ≤ 60) (hu : ∀ m, m < 16 → S.1 1 m ≤ 20) : gh_C l d mG_holds (rr 2 0 0) [.ref (Z 1 0), .int x, .int y] g (fun v g1 => v = some (.int (if qHo S x y = true then 1 else 0)) ∧ cA g1 Z S (sE S) ∧ fr kA g g1) := by
  refine gh_of [some (.ref (Z 1 0)), some (.int x), some (.int y), none, none, none] (by decide) rfl (Nat.le_of_ble_eq_true rfl) (by simp [Value.category]) (fun z C hQ => ?_)
  show gh_W l d z 0 [some (.ref (Z 1 0)), some (.int x), some (.int y), none, none, none] [] g 0 0
  obtain ⟨⟨qm, hqm, hqm2⟩, hM2⟩ := id hA.2.2.1
  obtain ⟨⟨qe, hqe, hqe2⟩, hE2⟩ := id hA.2.2.2.1
  have loop : ∀ (m e : Nat) (hd : Nat → Int32), m < 16 → x = nI m → S.2.1 0 m = nI e → e < sE S → ¬ (tkey (S.1 2 e) (S.2.2 2 e) y) = -1 → ∀ (c i : Nat), i + c = (gA S m).length → (∀ j, j < i → (gA S m)[j]? ≠ some (tkey (S.1 2 e) (S.2.2 2 e) y)) → gh_W l d z 64 [some (.ref (Z 1 0)), some (.int (nI m)), some (.int y), some (.int (tkey (S.1 2 e) (S.2.2 2 e) y)), some (.int (nI (gA S m).length)), some (.int (nI i))] [] (gh_u g (22, 0) (Z 22 0, .inl (0, 146, .inl (wrl (gA S m) hd)))) 0 0 := by
    intro m e hd hm hx h0 he hk c
    have gl0 := gl_len (S.2.1 2 m) (S.2.2 0 m) (S.2.2 1 m) (hu m hm)
    have gl1 := gp_len S m (sP S)
    have gl2 : (gA S m).length = (gl (S.2.1 2 m) (S.2.2 0 m) (S.2.2 1 m) (S.1 1 m)).length + (gp S m (sP S)).length := List.length_append
    have hcl : x.toNatClampNeg = m := by rw [hx]; exact nI_clamp (by omega)
    have hcl2 : (S.2.1 0 m).toNatClampNeg = e := by rw [h0]; exact nI_clamp (by omega)
    have hA1 := hA.he (wrl (gA S m) hd)
    have e1 : inn 16 x = true := by rw [hx]; exact inn_n hm (by decide)
    have e2 : inn (sE S) (S.2.1 0 m) = true := by rw [h0]; exact inn_n he (by omega)
    induction c with
    | zero =>
      intro i hi hb
      have hi : i = (gA S m).length := by omega
      subst hi
      have hz : ¬ qHo S x y = true := fun h => by
        simp only [qHo, Bool.and_eq_true, hcl, hcl2] at h
        exact con_no hb h.2
      refine gh_iload C dG_holds_64 rfl ?_
      refine gh_iload C dG_holds_66 rfl ?_
      refine gh_icmp_ge C 90 dG_holds_68 (by decide) (fun c68 => ?_) (fun c68 => ?_)
      ·
        refine gh_iconst C 0 dG_holds_90 (by decide) ?_
        refine gh_zret C hQ rfl (by simp) dG_holds_91 ?_
        exact ⟨by rw [if_neg hz], hA1, fr.rf.u rfl⟩
      · exact absurd (nI_le (Nat.le_refl _) (by omega)) c68
    | succ c ih =>
      intro i hi hb
      have hlt : i < (gA S m).length := by omega
      obtain ⟨q, hq⟩ : ∃ q, (gA S m)[i]? = some q := ⟨_, List.getElem?_eq_getElem hlt⟩
      have hwx : wrl (gA S m) hd i = q := by unfold wrl; rw [hq]; rfl
      refine gh_iload C dG_holds_64 rfl ?_
      refine gh_iload C dG_holds_66 rfl ?_
      refine gh_icmp_ge C 90 dG_holds_68 (by decide) (fun c68 => ?_) (fun c68 => ?_)
      · exact absurd c68 (nI_ge hlt (by omega))
      ·
        refine gh_aload_n C dG_holds_71 rfl ?_
        refine gh_get C fG_44 hA1.1 rfl dG_holds_72 ?_
        refine gh_iload C dG_holds_75 rfl ?_
        refine gh_ialdN C (i) gh_us rfl rfl ⟨by omega, by decide⟩ dG_holds_77 ?_
        refine gh_ti (q) hwx ?_
        refine gh_iload_n C dG_holds_78 rfl ?_
        refine gh_icmp_ne C 84 dG_holds_79 (by decide) (fun c79 => ?_) (fun c79 => ?_)
        ·
          refine gh_iinc C (nI (i + 1)) [some (.ref (Z 1 0)), some (.int (nI m)), some (.int y), some (.int (tkey (S.1 2 e) (S.2.2 2 e) y)), some (.int (nI (gA S m).length)), some (.int (nI (i + 1)))] dG_holds_84 rfl (gh_inc i) rfl ?_
          refine gh_goto C 64 dG_holds_87 (by decide) ?_
          exact ih (i + 1) (by omega) (fun j hj => by
            by_cases h : j = i
            · subst h; rw [hq]; exact fun h9 => c79 (Option.some.inj h9)
            · exact hb j (by omega))
        ·
          have hz : qHo S x y = true := by
            simp only [qHo, Bool.and_eq_true, hcl, hcl2, decide_eq_true_eq]
            exact ⟨⟨⟨e1, e2⟩, hk⟩, con_at (by rw [hq, c79])⟩
          refine gh_iconst C 1 dG_holds_82 (by decide) ?_
          refine gh_zret C hQ rfl (by simp) dG_holds_83 ?_
          exact ⟨by rw [if_pos hz], hA1, fr.rf.u rfl⟩
  refine gh_iload_n C dG_holds_0 rfl ?_
  refine gh_callS C [.int x] (c_isMember l d _ x) lG_83 wG_isMember sG_isMember rfl rfl (Nat.le_of_ble_eq_true rfl) ⟨Nat.le_of_ble_eq_true rfl, Nat.le_of_ble_eq_true rfl⟩ (Nat.le_of_ble_eq_true rfl) (Nat.le_of_ble_eq_true rfl) dG_holds_1 (fun v1 g1 h1 => ?_)
  obtain ⟨rfl, hg1⟩ := h1
  subst g1
  refine gh_if_eq C 23 dG_holds_4 (by decide) (fun c4 => ?_) (fun c4 => ?_)
  ·
    have e4 : ¬ inn 16 x = true := fun h => by rw [if_pos h] at c4; exact absurd c4 (by decide)
    have hz : ¬ qHo S x y = true := by simp [qHo, e4]
    refine gh_iconst C 0 dG_holds_23 (by decide) ?_
    refine gh_zret C hQ rfl (by simp) dG_holds_24 ?_
    exact ⟨by rw [if_neg hz], hA, fr.rf⟩
  ·
    have e4 : inn 16 x = true := by
      by_cases h : inn 16 x = true
      · exact h
      · rw [if_neg h] at c4; exact absurd rfl c4
    obtain ⟨m, hm, hx⟩ := inn_of (by decide) e4
    have hcl : x.toNatClampNeg = m := by rw [hx]; exact nI_clamp (by omega)
    have hmm := hM2 m hm
    refine gh_aload_n C dG_holds_7 rfl ?_
    refine gh_aload_n C dG_holds_8 rfl ?_
    refine gh_get C fG_18 hA.1 rfl dG_holds_9 ?_
    refine gh_iload_n C dG_holds_12 rfl ?_
    refine gh_aaldN C (m) hqm rfl hx ⟨hm, by decide⟩ dG_holds_13 ?_
    refine gh_tr (some (Z 8 m)) (hqm2 m hm) ?_
    refine gh_get C fG_161 hmm.1 rfl dG_holds_14 ?_
    refine gh_callV C [.int (S.2.1 0 m)] (c_isEpoch l d _ hA.1 (S.2.1 0 m)) lG_184 wG_isEpoch vG_isEpoch hA.1 rfl rfl rfl (Nat.le_of_ble_eq_true rfl) ⟨Nat.le_of_ble_eq_true rfl, Nat.le_of_ble_eq_true rfl⟩ (Nat.le_of_ble_eq_true rfl) (Nat.le_of_ble_eq_true rfl) dG_holds_17 (fun v17 g17 h17 => ?_)
    obtain ⟨rfl, hg17⟩ := h17
    subst g17
    refine gh_if_ne C 25 dG_holds_20 (by decide) (fun c20 => ?_) (fun c20 => ?_)
    ·
      have e20 : inn (sE S) (S.2.1 0 m) = true := by
        by_cases h : inn (sE S) (S.2.1 0 m) = true
        · exact h
        · rw [if_neg h] at c20; exact absurd rfl c20
      obtain ⟨e, he, h0⟩ := inn_of (by omega) e20
      have hcl2 : (S.2.1 0 m).toNatClampNeg = e := by rw [h0]; exact nI_clamp (by omega)
      have hw := hE2 e he
      refine gh_aload_n C dG_holds_25 rfl ?_
      refine gh_get C fG_24 hA.1 rfl dG_holds_26 ?_
      refine gh_aload_n C dG_holds_29 rfl ?_
      refine gh_get C fG_18 hA.1 rfl dG_holds_30 ?_
      refine gh_iload_n C dG_holds_33 rfl ?_
      refine gh_aaldN C (m) hqm rfl hx ⟨hm, by decide⟩ dG_holds_34 ?_
      refine gh_tr (some (Z 8 m)) (hqm2 m hm) ?_
      refine gh_get C fG_161 hmm.1 rfl dG_holds_35 ?_
      refine gh_aaldN C (e) hqe rfl h0 ⟨by omega, by decide⟩ dG_holds_38 ?_
      refine gh_tr (some (Z 12 e)) (hqe2 e he) ?_
      refine gh_get C fG_60 hw.1 rfl dG_holds_39 ?_
      refine gh_iload_n C dG_holds_42 rfl ?_
      refine gh_callV C [.int y] (c_keyOf l d _ hw.2 y) lG_187 wT_keyOf vT_keyOf hw.2.1 rfl rfl rfl (Nat.le_of_ble_eq_true rfl) ⟨Nat.le_of_ble_eq_true rfl, Nat.le_of_ble_eq_true rfl⟩ (Nat.le_of_ble_eq_true rfl) (Nat.le_of_ble_eq_true rfl) dG_holds_43 (fun v43 g43 h43 => ?_)
      obtain ⟨rfl, hg43⟩ := h43
      subst g43
      rw [show (if thr (S.1 2 e) y = true then S.2.2 2 e y.toNatClampNeg else -1) = (tkey (S.1 2 e) (S.2.2 2 e) y) from rfl]
      refine gh_istore_n C [some (.ref (Z 1 0)), some (.int x), some (.int y), some (.int (tkey (S.1 2 e) (S.2.2 2 e) y)), none, none] dG_holds_46 rfl (Nat.le_of_ble_eq_true rfl) ?_
      refine gh_iload_n C dG_holds_47 rfl ?_
      refine gh_iconst C (-1) dG_holds_48 (by decide) ?_
      refine gh_icmp_ne C 54 dG_holds_49 (by decide) (fun c49 => ?_) (fun c49 => ?_)
      ·
        refine gh_aload_n C dG_holds_54 rfl ?_
        refine gh_iload_n C dG_holds_55 rfl ?_
        rw [hx]
        refine gh_callV C [.int (nI m)] (c_gather l d _ hA m hm hP60 (hu m hm)) lG_175 wG_gather vG_gather hA.1 rfl rfl rfl (Nat.le_of_ble_eq_true rfl) ⟨Nat.le_of_ble_eq_true rfl, Nat.le_of_ble_eq_true rfl⟩ (Nat.le_of_ble_eq_true rfl) (Nat.le_of_ble_eq_true rfl) dG_holds_56 (fun v56 g56 h56 => ?_)
        obtain ⟨rfl, hd, rfl⟩ := h56
        refine gh_istore C [some (.ref (Z 1 0)), some (.int (nI m)), some (.int y), some (.int (tkey (S.1 2 e) (S.2.2 2 e) y)), some (.int (nI (gA S m).length)), none] dG_holds_59 rfl (Nat.le_of_ble_eq_true rfl) ?_
        refine gh_iconst C 0 dG_holds_61 (by decide) ?_
        refine gh_istore C [some (.ref (Z 1 0)), some (.int (nI m)), some (.int y), some (.int (tkey (S.1 2 e) (S.2.2 2 e) y)), some (.int (nI (gA S m).length)), some (.int 0)] dG_holds_62 rfl (Nat.le_of_ble_eq_true rfl) ?_
        exact loop m e hd hm hx h0 he c49 (gA S m).length 0 (by omega) (fun j hj => absurd hj (Nat.not_lt_zero j))
      ·
        have hz : ¬ qHo S x y = true := by simp [qHo, hcl, hcl2, c49]
        refine gh_iconst C 0 dG_holds_52 (by decide) ?_
        refine gh_zret C hQ rfl (by simp) dG_holds_53 ?_
        exact ⟨by rw [if_neg hz], hA, fr.rf⟩
    ·
      have e20 : ¬ inn (sE S) (S.2.1 0 m) = true := fun h => by rw [if_pos h] at c20; exact absurd c20 (by decide)
      have hz : ¬ qHo S x y = true := by simp [qHo, hcl, e20]
      refine gh_iconst C 0 dG_holds_23 (by decide) ?_
      refine gh_zret C hQ rfl (by simp) dG_holds_24 ?_
      exact ⟨by rw [if_neg hz], hA, fr.rf⟩
def qNo (S : SC) (x y w : Int32) : Int32 := if inn (sE S) x = true ∧ thr (S.1 2 x.toNatClampNeg) y = true then (if w = 0 then (if S.2.2 2 x.toNatClampNeg y.toNatClampNeg = -1 then 0 else 1) else if w = 1 then S.2.2 4 x.toNatClampNeg y.toNatClampNeg else if w = 2 then S.2.2 3 x.toNatClampNeg y.toNatClampNeg else if w = 3 then bcn (res (S.1 2 x.toNatClampNeg) (S.2.2 2 x.toNatClampNeg) (S.2.2 4 x.toNatClampNeg) (hgt y.toNatClampNeg) y.toNatClampNeg) else -1) else -1
set_option maxRecDepth 100000 in
set_option maxHeartbeats 4000000 in
theorem c_node (l : Launch) (d : gh_D) (g : gh_H) {Z : ZC} {S : SC} (hA : cA g Z S (sE S)) (x y w : Int32) (hE60 : sE S ≤ 60) : gh_C l d mG_node (rr 8 0 0) [.ref (Z 1 0), .int x, .int y, .int w] g (fun v g1 => v = some (.int (qNo S x y w)) ∧ g1 = g) := by
  obtain ⟨⟨qe, hqe, hqe2⟩, hE2⟩ := id hA.2.2.2.1
  refine gh_of [some (.ref (Z 1 0)), some (.int x), some (.int y), some (.int w), none] (by decide) rfl (Nat.le_of_ble_eq_true rfl) (by simp [Value.category]) (fun z C hQ => ?_)
  show gh_W l d z 0 [some (.ref (Z 1 0)), some (.int x), some (.int y), some (.int w), none] [] g 0 0
  refine gh_aload_n C dG_node_0 rfl ?_
  refine gh_iload_n C dG_node_1 rfl ?_
  refine gh_callV C [.int x] (c_isEpoch l d _ hA.1 x) lG_184 wG_isEpoch vG_isEpoch hA.1 rfl rfl rfl (Nat.le_of_ble_eq_true rfl) ⟨Nat.le_of_ble_eq_true rfl, Nat.le_of_ble_eq_true rfl⟩ (Nat.le_of_ble_eq_true rfl) (Nat.le_of_ble_eq_true rfl) dG_node_2 (fun v2 g2 h2 => ?_)
  obtain ⟨rfl, hg2⟩ := h2
  subst g2
  refine gh_if_eq C 24 dG_node_5 (by decide) (fun c5 => ?_) (fun c5 => ?_)
  ·
    have e5 : ¬ inn (sE S) x = true := fun h => by rw [if_pos h] at c5; exact absurd c5 (by decide)
    have hz : ¬ (inn (sE S) x = true ∧ thr (S.1 2 x.toNatClampNeg) y = true) := fun h => e5 h.1
    refine gh_iconst C (-1) dG_node_24 (by decide) ?_
    refine gh_iret C hQ rfl dG_node_25 ?_
    exact ⟨by unfold qNo; rw [if_neg hz], rfl⟩
  ·
    have e5 : inn (sE S) x = true := by
      by_cases h : inn (sE S) x = true
      · exact h
      · rw [if_neg h] at c5; exact absurd rfl c5
    obtain ⟨e, he, hx⟩ := inn_of (by omega) e5
    have hcl : x.toNatClampNeg = e := by rw [hx]; exact nI_clamp (by omega)
    have hw := hE2 e he
    refine gh_aload_n C dG_node_8 rfl ?_
    refine gh_get C fG_24 hA.1 rfl dG_node_9 ?_
    refine gh_iload_n C dG_node_12 rfl ?_
    refine gh_aaldN C (e) hqe rfl hx ⟨by omega, by decide⟩ dG_node_13 ?_
    refine gh_tr (some (Z 12 e)) (hqe2 e he) ?_
    refine gh_get C fG_60 hw.1 rfl dG_node_14 ?_
    refine gh_iload_n C dG_node_17 rfl ?_
    refine gh_callV C [.int y] (c_isThere l d _ hw.2 y) lG_191 wT_isThere vT_isThere hw.2.1 rfl rfl rfl (Nat.le_of_ble_eq_true rfl) ⟨Nat.le_of_ble_eq_true rfl, Nat.le_of_ble_eq_true rfl⟩ (Nat.le_of_ble_eq_true rfl) (Nat.le_of_ble_eq_true rfl) dG_node_18 (fun v18 g18 h18 => ?_)
    obtain ⟨rfl, hg18⟩ := h18
    subst g18
    refine gh_if_ne C 26 dG_node_21 (by decide) (fun c21 => ?_) (fun c21 => ?_)
    ·
      have e21 : thr (S.1 2 e) y = true := by
        by_cases h : thr (S.1 2 e) y = true
        · exact h
        · rw [if_neg h] at c21; exact absurd rfl c21
      have hD := hw.2.2.2.2.2
      obtain ⟨u, hu, hyu⟩ := thr_of hD e21
      have hv31 := tW_le hD
      have hcv : y.toNatClampNeg = u := by rw [hyu]; exact nI_clamp (by omega)
      refine gh_aload_n C dG_node_26 rfl ?_
      refine gh_get C fG_24 hA.1 rfl dG_node_27 ?_
      refine gh_iload_n C dG_node_30 rfl ?_
      refine gh_aaldN C (e) hqe rfl hx ⟨by omega, by decide⟩ dG_node_31 ?_
      refine gh_tr (some (Z 12 e)) (hqe2 e he) ?_
      refine gh_get C fG_60 hw.1 rfl dG_node_32 ?_
      refine gh_astore C [some (.ref (Z 1 0)), some (.int x), some (.int y), some (.int w), some (.ref (Z 13 e))] dG_node_35 rfl (Nat.le_of_ble_eq_true rfl) ?_
      refine gh_iload_n C dG_node_37 rfl ?_
      by_cases t38_0 : w = 0
      · rw [t38_0]
        refine gh_tabIn C 68 dG_node_38 (by decide) (by decide) rfl (by decide) ?_
        refine gh_aload C dG_node_68 rfl ?_
        refine gh_iload_n C dG_node_70 rfl ?_
        refine gh_callV C [.int y] (c_keyOf l d _ hw.2 y) lG_187 wT_keyOf vT_keyOf hw.2.1 rfl rfl rfl (Nat.le_of_ble_eq_true rfl) ⟨Nat.le_of_ble_eq_true rfl, Nat.le_of_ble_eq_true rfl⟩ (Nat.le_of_ble_eq_true rfl) (Nat.le_of_ble_eq_true rfl) dG_node_71 (fun v71 g71 h71 => ?_)
        obtain ⟨rfl, hg71⟩ := h71
        subst g71
        rw [if_pos e21, hcv]
        refine gh_iconst C (-1) dG_node_74 (by decide) ?_
        refine gh_icmp_ne C 82 dG_node_75 (by decide) (fun c75 => ?_) (fun c75 => ?_)
        ·
          refine gh_iconst C 1 dG_node_82 (by decide) ?_
          refine gh_iret C hQ rfl dG_node_83 ?_
          exact ⟨by unfold qNo; rw [if_pos ⟨e5, by rw [hcl]; exact e21⟩, hcl, hcv]; simp [t38_0, c75], rfl⟩
        ·
          refine gh_iconst C 0 dG_node_78 (by decide) ?_
          refine gh_goto C 83 dG_node_79 (by decide) ?_
          refine gh_iret C hQ rfl dG_node_83 ?_
          exact ⟨by unfold qNo; rw [if_pos ⟨e5, by rw [hcl]; exact e21⟩, hcl, hcv]; simp [t38_0, c75], rfl⟩
      by_cases t38_1 : w = 1
      · rw [t38_1]
        refine gh_tabIn C 84 dG_node_38 (by decide) (by decide) rfl (by decide) ?_
        refine gh_aload C dG_node_84 rfl ?_
        refine gh_iload_n C dG_node_86 rfl ?_
        refine gh_callV C [.int y] (c_unmergedAt l d _ hw.2 y) lG_194 wT_unmergedAt vT_unmergedAt hw.2.1 rfl rfl rfl (Nat.le_of_ble_eq_true rfl) ⟨Nat.le_of_ble_eq_true rfl, Nat.le_of_ble_eq_true rfl⟩ (Nat.le_of_ble_eq_true rfl) (Nat.le_of_ble_eq_true rfl) dG_node_87 (fun v87 g87 h87 => ?_)
        obtain ⟨rfl, hg87⟩ := h87
        subst g87
        rw [if_pos e21, hcv]
        refine gh_iret C hQ rfl dG_node_90 ?_
        exact ⟨by unfold qNo; rw [if_pos ⟨e5, by rw [hcl]; exact e21⟩, hcl, hcv]; simp [t38_1], rfl⟩
      by_cases t38_2 : w = 2
      · rw [t38_2]
        refine gh_tabIn C 91 dG_node_38 (by decide) (by decide) rfl (by decide) ?_
        refine gh_aload C dG_node_91 rfl ?_
        refine gh_iload_n C dG_node_93 rfl ?_
        refine gh_callV C [.int y] (c_bornAt l d _ hw.2 y) lG_197 wT_bornAt vT_bornAt hw.2.1 rfl rfl rfl (Nat.le_of_ble_eq_true rfl) ⟨Nat.le_of_ble_eq_true rfl, Nat.le_of_ble_eq_true rfl⟩ (Nat.le_of_ble_eq_true rfl) (Nat.le_of_ble_eq_true rfl) dG_node_94 (fun v94 g94 h94 => ?_)
        obtain ⟨rfl, hg94⟩ := h94
        subst g94
        rw [if_pos e21, hcv]
        refine gh_iret C hQ rfl dG_node_97 ?_
        exact ⟨by unfold qNo; rw [if_pos ⟨e5, by rw [hcl]; exact e21⟩, hcl, hcv]; simp [t38_2], rfl⟩
      by_cases t38_3 : w = 3
      · rw [t38_3]
        refine gh_tabIn C 98 dG_node_38 (by decide) (by decide) rfl (by decide) ?_
        refine gh_aload C dG_node_98 rfl ?_
        refine gh_iload_n C dG_node_100 rfl ?_
        refine gh_iload_n C dG_node_101 rfl ?_
        rw [hyu]
        refine gh_callS C [.int (nI u)] (c_heightOf l d _ u (by omega)) lG_200 wG_heightOf sG_heightOf rfl rfl (Nat.le_of_ble_eq_true rfl) ⟨Nat.le_of_ble_eq_true rfl, Nat.le_of_ble_eq_true rfl⟩ (Nat.le_of_ble_eq_true rfl) (Nat.le_of_ble_eq_true rfl) dG_node_102 (fun v102 g102 h102 => ?_)
        obtain ⟨rfl, hg102⟩ := h102
        subst g102
        have hh4 := hgt_le u (by omega)
        have h16 : 2 ^ hgt u ≤ 16 := pow_le _ hh4.1
        refine gh_callV C [.int (nI u), .int (nI (hgt u))] (c_res l d _ hw.2 (hgt u) u hh4.1 hh4.2 (by omega)) lG_203 wT_resolution vT_resolution hw.2.1 rfl rfl rfl (Nat.le_of_ble_eq_true rfl) ⟨by show hgt u + 3 + 1 ≤ 8; omega, by show 8 + (4 + 11) + 40 * (hgt u + 3) ≤ 40 * 8; omega⟩ (Nat.le_of_ble_eq_true rfl) (Nat.le_of_ble_eq_true rfl) dG_node_105 (fun v105 g105 h105 => ?_)
        obtain ⟨rfl, hg105⟩ := h105
        subst g105
        refine gh_callS C [.int (res (S.1 2 e) (S.2.2 2 e) (S.2.2 4 e) (hgt u) u)] (c_bitCount l d _ (res (S.1 2 e) (S.2.2 2 e) (S.2.2 4 e) (hgt u) u)) lG_207 wI_bitCount sI_bitCount rfl rfl (Nat.le_of_ble_eq_true rfl) ⟨Nat.le_of_ble_eq_true rfl, Nat.le_of_ble_eq_true rfl⟩ (Nat.le_of_ble_eq_true rfl) (Nat.le_of_ble_eq_true rfl) dG_node_108 (fun v108 g108 h108 => ?_)
        obtain ⟨rfl, hg108⟩ := h108
        subst g108
        refine gh_iret C hQ rfl dG_node_111 ?_
        exact ⟨by unfold qNo; rw [if_pos ⟨e5, by rw [hcl]; exact e21⟩, hcl, hcv]; simp [t38_3], rfl⟩
      refine gh_tabOut C 112 dG_node_38 (tabO (n := 4) (by decide) (fun j hj hx => ?_)) (by decide) ?_
      · have hj9 : j = 0 ∨ j = 1 ∨ j = 2 ∨ j = 3 := by omega
        rcases hj9 with rfl | rfl | rfl | rfl
        · exact t38_0 hx
        · exact t38_1 hx
        · exact t38_2 hx
        · exact t38_3 hx
      refine gh_iconst C (-1) dG_node_112 (by decide) ?_
      refine gh_iret C hQ rfl dG_node_113 ?_
      exact ⟨by unfold qNo; rw [if_pos ⟨e5, by rw [hcl]; exact e21⟩, hcl, hcv]; simp [t38_0, t38_1, t38_2, t38_3], rfl⟩
    ·
      have e21 : ¬ thr (S.1 2 e) y = true := fun h => by rw [if_pos h] at c21; exact absurd c21 (by decide)
      have hz : ¬ (inn (sE S) x = true ∧ thr (S.1 2 x.toNatClampNeg) y = true) := fun h => e21 (by rw [← hcl]; exact h.2)
      refine gh_iconst C (-1) dG_node_24 (by decide) ?_
      refine gh_iret C hQ rfl dG_node_25 ?_
      exact ⟨by unfold qNo; rw [if_neg hz], rfl⟩
def qCo (S : SC) : Nat → Nat
  | 0 => 0
  | i + 1 => if outQ S (S.2.1 5 i) = true then qCo S i + 1 else qCo S i
set_option maxRecDepth 100000 in
set_option maxHeartbeats 4000000 in
theorem c_known (l : Launch) (d : gh_D) (g : gh_H) {Z : ZC} {S : SC} (hA : cA g Z S (sE S)) (hE60 : sE S ≤ 60) : gh_C l d mG_known (rr 1 0 0) [.ref (Z 1 0)] g (fun v g1 => v = some (.int (nI (qCo S (sE S)))) ∧ g1 = g) := by
  refine gh_of [some (.ref (Z 1 0)), none, none] (by decide) rfl (Nat.le_of_ble_eq_true rfl) (by simp [Value.category]) (fun z C hQ => ?_)
  show gh_W l d z 0 [some (.ref (Z 1 0)), none, none] [] g 0 0
  obtain ⟨⟨qe, hqe, hqe2⟩, hE2⟩ := id hA.2.2.2.1
  obtain ⟨ao0, x0, y0, w0, hs0, hsb0, hsc0, hsd0, hse0⟩ := id hA.2.1
  have loop : ∀ (c i : Nat), i + c = sE S → gh_W l d z 4 [some (.ref (Z 1 0)), some (.int (nI (qCo S i))), some (.int (nI i))] [] g 0 0 := by
    intro c
    induction c with
    | zero =>
      intro i hi
      have hi : i = sE S := by omega
      subst hi
      refine gh_iload_n C dG_known_4 rfl ?_
      refine gh_aload_n C dG_known_5 rfl ?_
      refine gh_get C fG_76 hA.1 rfl dG_known_6 ?_
      refine gh_icmp_ge C 40 dG_known_9 (by decide) (fun c9 => ?_) (fun c9 => ?_)
      ·
        refine gh_iload_n C dG_known_40 rfl ?_
        refine gh_iret C hQ rfl dG_known_41 ?_
        exact ⟨rfl, rfl⟩
      · exact absurd (nI_le (Nat.le_refl (sE S)) (by omega)) c9
    | succ c ih =>
      intro i hi
      have hlt : i < sE S := by omega
      have hw := hE2 i hlt
      have inc : ∀ (k : Int32), k = nI (qCo S (i + 1)) → gh_W l d z 34 [some (.ref (Z 1 0)), some (.int k), some (.int (nI i))] [] g 0 0 := by
        intro k hk
        rw [hk]
        refine gh_iinc C (nI (i + 1)) [some (.ref (Z 1 0)), some (.int (nI (qCo S (i + 1)))), some (.int (nI (i + 1)))] dG_known_34 rfl (gh_inc i) rfl ?_
        refine gh_goto C 4 dG_known_37 (by decide) ?_
        exact ih (i + 1) (by omega)
      refine gh_iload_n C dG_known_4 rfl ?_
      refine gh_aload_n C dG_known_5 rfl ?_
      refine gh_get C fG_76 hA.1 rfl dG_known_6 ?_
      refine gh_icmp_ge C 40 dG_known_9 (by decide) (fun c9 => ?_) (fun c9 => ?_)
      · exact absurd c9 (nI_ge hlt (by omega))
      ·
        refine gh_aload_n C dG_known_12 rfl ?_
        refine gh_get C fG_12 hA.1 rfl dG_known_13 ?_
        refine gh_aload_n C dG_known_16 rfl ?_
        refine gh_get C fG_24 hA.1 rfl dG_known_17 ?_
        refine gh_iload_n C dG_known_20 rfl ?_
        refine gh_aaldN C (i) hqe rfl rfl ⟨by omega, by decide⟩ dG_known_21 ?_
        refine gh_tr (some (Z 12 i)) (hqe2 i hlt) ?_
        refine gh_get C fG_72 hw.1 rfl dG_known_22 ?_
        refine gh_callV C [.int (S.2.1 5 i)] (c_isOut l d _ hA.2.1 hA.2.2.2.2.2.2.2.2 (S.2.1 5 i)) lG_224 wS_isOut vS_isOut hs0 rfl rfl rfl (Nat.le_of_ble_eq_true rfl) ⟨Nat.le_of_ble_eq_true rfl, Nat.le_of_ble_eq_true rfl⟩ (Nat.le_of_ble_eq_true rfl) (Nat.le_of_ble_eq_true rfl) dG_known_25 (fun v25 g25 h25 => ?_)
        obtain ⟨rfl, hg25⟩ := h25
        subst g25
        rw [show isO (sN S) (S.2.1 21) (S.2.1 5 i) = outQ S (S.2.1 5 i) from rfl]
        refine gh_if_eq C 34 dG_known_28 (by decide) (fun c28 => ?_) (fun c28 => ?_)
        ·
          have e28 : ¬ outQ S (S.2.1 5 i) = true := fun h => by rw [if_pos h] at c28; exact absurd c28 (by decide)
          have ez : qCo S (i + 1) = qCo S i := if_neg e28
          exact inc _ (by rw [ez])
        ·
          have e28 : outQ S (S.2.1 5 i) = true := by
            by_cases h : outQ S (S.2.1 5 i) = true
            · exact h
            · rw [if_neg h] at c28; exact absurd rfl c28
          have ez : qCo S (i + 1) = qCo S i + 1 := if_pos e28
          refine gh_iinc C (nI ((qCo S i) + 1)) [some (.ref (Z 1 0)), some (.int (nI ((qCo S i) + 1))), some (.int (nI i))] dG_known_31 rfl (gh_inc (qCo S i)) rfl ?_
          exact inc _ (by rw [ez])
  refine gh_iconst C 0 dG_known_0 (by decide) ?_
  refine gh_istore_n C [some (.ref (Z 1 0)), some (.int 0), none] dG_known_1 rfl (Nat.le_of_ble_eq_true rfl) ?_
  refine gh_iconst C 0 dG_known_2 (by decide) ?_
  refine gh_istore_n C [some (.ref (Z 1 0)), some (.int 0), some (.int 0)] dG_known_3 rfl (Nat.le_of_ble_eq_true rfl) ?_
  exact loop (sE S) 0 (by omega)
