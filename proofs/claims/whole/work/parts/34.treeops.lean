/-! trees: blanking a path, marking, shrinking, room, resolutions -/
def pth (a i v : Nat) : Bool := (List.range i).any (fun h => pn a h == v)
def bl (a i : Nat) (x : Int32) (f : Nat → Int32) : Nat → Int32 := fun v => if pth a i v = true then x else f v
theorem bl_0 (a : Nat) (x : Int32) (f : Nat → Int32) : bl a 0 x f = f := by funext v; simp [bl, pth]
theorem bl_s (a i : Nat) (x : Int32) (f : Nat → Int32) : upd (bl a i x f) (pn a i) x = bl a (i + 1) x f := by
  funext v
  simp only [upd, bl, pth, List.range_succ, List.any_append, List.any_cons, List.any_nil, Bool.or_false]
  by_cases h : v = pn a i
  · subst h; simp
  · have h2 : ¬ pn a i = v := fun q => h q.symm
    simp [h, h2]
theorem pn_w1 : ∀ D, D ≤ 4 → ∀ h, h ≤ D → ∀ a, a < 2 ^ D → pn a h < tW D := by decide +kernel
theorem pow_le : ∀ D, D ≤ 4 → 2 ^ D ≤ 16 := by decide +kernel
theorem tput_n {D v : Nat} (hD : D ≤ 4) (hv : v < tW D) (f : Nat → Int32) (x : Int32) : tput D f (nI v) x = upd f v x := by
  have h31 := tW_le hD
  have h : thr D (nI v) = true := by rw [thr_n hD (by omega)]; simp [hv]
  simp only [tput, if_pos h]
  rw [nI_clamp (by omega)]
theorem tkey_n {D v : Nat} (hD : D ≤ 4) (hv : v < tW D) (f : Nat → Int32) : (if thr D (nI v) = true then f (nI v).toNatClampNeg else -1) = f v := by
  have h31 := tW_le hD
  have h : thr D (nI v) = true := by rw [thr_n hD (by omega)]; simp [hv]
  rw [if_pos h, nI_clamp (by omega)]
set_option maxRecDepth 100000 in
set_option maxHeartbeats 4000000 in
theorem c_blankPath (l : Launch) (d : gh_D) (g : gh_H) {e D t ka ba ua : Nat} {K B U : Nat → Int32} (hp : pT g e D t ka ba ua K B U) (a : Nat) (ha : a < 2 ^ D) : gh_C l d mT_blankLeafAndPath (rr 3 0 0) [.ref t, .int (nI a)] g (fun v g1 => v = none ∧ g1 = tset g e ka ba ua (bl a (D + 1) (-1) K) (bl a (D + 1) (-1) B) (bl a (D + 1) 0 U)) := by
  refine gh_of [some (.ref t), some (.int (nI a)), none] (by decide) rfl (Nat.le_of_ble_eq_true rfl) (by simp [Value.category]) (fun z C hQ => ?_)
  show gh_W l d z 0 [some (.ref t), some (.int (nI a)), none] [] g 0 0
  have hD := hp.2.2.2.2
  have h16 := pow_le D hD
  have loop : ∀ (c i : Nat), i + c = D + 1 → gh_W l d z 2 [some (.ref t), some (.int (nI a)), some (.int (nI i))] [] (tset g e ka ba ua (bl a i (-1) K) (bl a i (-1) B) (bl a i 0 U)) 0 0 := by
    intro c
    induction c with
    | zero =>
      intro i hi
      have hi : i = D + 1 := by omega
      subst hi
      have hp1 := tset_pT hp (bl a (D + 1) (-1) K) (bl a (D + 1) (-1) B) (bl a (D + 1) 0 U)
      refine gh_iload_n C dT_blankLeafAndPath_2 rfl ?_
      refine gh_aload_n C dT_blankLeafAndPath_3 rfl ?_
      refine gh_get C fT_27 hp1.1 rfl dT_blankLeafAndPath_4 ?_
      refine gh_icmp_gt C 25 dT_blankLeafAndPath_7 (by decide) (fun c7 => ?_) (fun c7 => ?_)
      ·
        refine gh_vret C hQ rfl dT_blankLeafAndPath_25 ?_
        exact ⟨rfl, rfl⟩
      · exact absurd (nI_lt (Nat.lt_succ_self D) (by omega)) c7
    | succ c ih =>
      intro i hi
      have hi2 : i ≤ D := by omega
      have hp1 := tset_pT hp (bl a i (-1) K) (bl a i (-1) B) (bl a i 0 U)
      have hv := pn_w1 D hD i hi2 a ha
      refine gh_iload_n C dT_blankLeafAndPath_2 rfl ?_
      refine gh_aload_n C dT_blankLeafAndPath_3 rfl ?_
      refine gh_get C fT_27 hp1.1 rfl dT_blankLeafAndPath_4 ?_
      refine gh_icmp_gt C 25 dT_blankLeafAndPath_7 (by decide) (fun c7 => ?_) (fun c7 => ?_)
      · exact absurd c7 (nI_nlt hi2 (by omega))
      ·
        refine gh_aload_n C dT_blankLeafAndPath_10 rfl ?_
        refine gh_iload_n C dT_blankLeafAndPath_11 rfl ?_
        refine gh_iload_n C dT_blankLeafAndPath_12 rfl ?_
        refine gh_callS C [.int (nI a), .int (nI i)] (c_pathNode l d _ a i (by omega) (by omega)) lT_43 wG_pathNode sG_pathNode rfl rfl (Nat.le_of_ble_eq_true rfl) ⟨Nat.le_of_ble_eq_true rfl, Nat.le_of_ble_eq_true rfl⟩ (Nat.le_of_ble_eq_true rfl) (Nat.le_of_ble_eq_true rfl) dT_blankLeafAndPath_13 (fun v13 g13 h13 => ?_)
        obtain ⟨rfl, rfl⟩ := h13
        refine gh_callV C [.int (nI (pn a i))] (c_blank l d _ hp1 (nI (pn a i))) lT_47 wT_blank vT_blank hp1.1 rfl rfl rfl (Nat.le_of_ble_eq_true rfl) ⟨Nat.le_of_ble_eq_true rfl, Nat.le_of_ble_eq_true rfl⟩ (Nat.le_of_ble_eq_true rfl) (Nat.le_of_ble_eq_true rfl) dT_blankLeafAndPath_16 (fun v16 g16 h16x => ?_)
        obtain ⟨rfl, rfl⟩ := h16x
        rw [tput_n hD hv, tput_n hD hv, tput_n hD hv, bl_s, bl_s, bl_s, tset_tset]
        refine gh_iinc C (nI (i + 1)) [some (.ref t), some (.int (nI a)), some (.int (nI (i + 1)))] dT_blankLeafAndPath_19 rfl (gh_inc i) rfl ?_
        refine gh_goto C 2 dT_blankLeafAndPath_22 (by decide) ?_
        exact ih (i + 1) (by omega)
  refine gh_iconst C 0 dT_blankLeafAndPath_0 (by decide) ?_
  refine gh_istore_n C [some (.ref t), some (.int (nI a)), some (.int 0)] dT_blankLeafAndPath_1 rfl (Nat.le_of_ble_eq_true rfl) ?_
  have h := loop (D + 1) 0 (by omega)
  rw [bl_0, bl_0, bl_0, tset_self hp] at h
  exact h
def mk1 (a : Nat) (K U : Nat → Int32) (i : Nat) : Nat → Int32 := fun v => if (List.range i).any (fun h => pn a (h + 1) == v) = true ∧ K v ≠ -1 then U v ||| ((1 : Int32) <<< (nI a &&& 31)) else U v
theorem mk1_0 (a : Nat) (K U : Nat → Int32) : mk1 a K U 0 = U := by funext v; simp [mk1]
theorem pn_inj : ∀ a, a < 16 → ∀ h, h ≤ 4 → ∀ k, k ≤ 4 → pn a h = pn a k → h = k := by decide +kernel
theorem mk1_s1 {a i : Nat} (K U : Nat → Int32) (ha : a < 16) (hi : i < 4) (hK : K (pn a (i + 1)) ≠ -1) : upd (mk1 a K U i) (pn a (i + 1)) (mk1 a K U i (pn a (i + 1)) ||| ((1 : Int32) <<< (nI a &&& 31))) = mk1 a K U (i + 1) := by
  have hn : ¬ (List.range i).any (fun h => pn a (h + 1) == pn a (i + 1)) = true := by
    intro h
    obtain ⟨j, hj, he⟩ := List.any_eq_true.mp h
    rw [List.mem_range] at hj
    have := pn_inj a ha (j + 1) (by omega) (i + 1) (by omega) (by simpa using he)
    omega
  funext v
  simp only [upd, mk1, List.range_succ, List.any_append, List.any_cons, List.any_nil, Bool.or_false]
  by_cases h : v = pn a (i + 1)
  · subst h; simp [hK, hn]
  · have h2 : ¬ pn a (i + 1) = v := fun q => h q.symm
    simp [h, h2]
theorem mk1_s0 {a i : Nat} (K U : Nat → Int32) (hK : K (pn a (i + 1)) = -1) : mk1 a K U i = mk1 a K U (i + 1) := by
  funext v
  simp only [mk1, List.range_succ, List.any_append, List.any_cons, List.any_nil, Bool.or_false]
  by_cases h : v = pn a (i + 1)
  · subst h; simp [hK]
  · have h2 : ¬ pn a (i + 1) = v := fun q => h q.symm
    simp [h2]
theorem tset_u {g : gh_H} {e ka ba ua : Nat} {K B U U1 : Nat → Int32} : gh_u (tset g e ka ba ua K B U) (16, e) (ua, .inl (0, 31, .inl U1)) = tset g e ka ba ua K B U1 := by unfold tset; rw [gh_uu]
set_option maxRecDepth 100000 in
set_option maxHeartbeats 4000000 in
theorem c_mark (l : Launch) (d : gh_D) (g : gh_H) {e D t ka ba ua : Nat} {K B U : Nat → Int32} (hp : pT g e D t ka ba ua K B U) (a : Nat) (ha : a < 2 ^ D) : gh_C l d mT_markUnmerged (rr 2 0 0) [.ref t, .int (nI a)] g (fun v g1 => v = none ∧ g1 = tset g e ka ba ua K B (mk1 a K U D)) := by
  refine gh_of [some (.ref t), some (.int (nI a)), none, none] (by decide) rfl (Nat.le_of_ble_eq_true rfl) (by simp [Value.category]) (fun z C hQ => ?_)
  show gh_W l d z 0 [some (.ref t), some (.int (nI a)), none, none] [] g 0 0
  have hD := hp.2.2.2.2
  have h16 := pow_le D hD
  have h31 := tW_le hD
  have loop : ∀ (c i : Nat) (y : Option Value), i + c = D → gh_W l d z 2 [some (.ref t), some (.int (nI a)), some (.int (nI (i + 1))), y] [] (tset g e ka ba ua K B (mk1 a K U i)) 0 0 := by
    intro c
    induction c with
    | zero =>
      intro i y hi
      have hi : i = D := by omega
      subst hi
      have hp1 := tset_pT hp K B (mk1 a K U i)
      refine gh_iload_n C dT_markUnmerged_2 rfl ?_
      refine gh_aload_n C dT_markUnmerged_3 rfl ?_
      refine gh_get C fT_27 hp1.1 rfl dT_markUnmerged_4 ?_
      refine gh_icmp_gt C 44 dT_markUnmerged_7 (by decide) (fun c7 => ?_) (fun c7 => ?_)
      ·
        refine gh_vret C hQ rfl dT_markUnmerged_44 ?_
        exact ⟨rfl, rfl⟩
      · exact absurd (nI_lt (Nat.lt_succ_self i) (by omega)) c7
    | succ c ih =>
      intro i y hi
      have hi2 : i + 1 ≤ D := by omega
      have hp1 := tset_pT hp K B (mk1 a K U i)
      have hv := pn_w1 D hD (i + 1) hi2 a ha
      refine gh_iload_n C dT_markUnmerged_2 rfl ?_
      refine gh_aload_n C dT_markUnmerged_3 rfl ?_
      refine gh_get C fT_27 hp1.1 rfl dT_markUnmerged_4 ?_
      refine gh_icmp_gt C 44 dT_markUnmerged_7 (by decide) (fun c7 => ?_) (fun c7 => ?_)
      · exact absurd c7 (nI_nlt hi2 (by omega))
      ·
        refine gh_iload_n C dT_markUnmerged_10 rfl ?_
        refine gh_iload_n C dT_markUnmerged_11 rfl ?_
        refine gh_callS C [.int (nI a), .int (nI (i + 1))] (c_pathNode l d _ a (i + 1) (by omega) (by omega)) lT_43 wG_pathNode sG_pathNode rfl rfl (Nat.le_of_ble_eq_true rfl) ⟨Nat.le_of_ble_eq_true rfl, Nat.le_of_ble_eq_true rfl⟩ (Nat.le_of_ble_eq_true rfl) (Nat.le_of_ble_eq_true rfl) dT_markUnmerged_12 (fun v12 g12 h12 => ?_)
        obtain ⟨rfl, rfl⟩ := h12
        refine gh_istore_n C [some (.ref t), some (.int (nI a)), some (.int (nI (i + 1))), some (.int (nI (pn a (i + 1))))] dT_markUnmerged_15 rfl (Nat.le_of_ble_eq_true rfl) ?_
        refine gh_aload_n C dT_markUnmerged_16 rfl ?_
        refine gh_iload_n C dT_markUnmerged_17 rfl ?_
        refine gh_callV C [.int (nI (pn a (i + 1)))] (c_keyOf l d _ hp1 (nI (pn a (i + 1)))) lT_51 wT_keyOf vT_keyOf hp1.1 rfl rfl rfl (Nat.le_of_ble_eq_true rfl) ⟨Nat.le_of_ble_eq_true rfl, Nat.le_of_ble_eq_true rfl⟩ (Nat.le_of_ble_eq_true rfl) (Nat.le_of_ble_eq_true rfl) dT_markUnmerged_18 (fun v18 g18 h18 => ?_)
        obtain ⟨rfl, rfl⟩ := h18
        rw [tkey_n hD hv]
        refine gh_iconst C (-1) dT_markUnmerged_21 (by decide) ?_
        refine gh_icmp_eq C 38 dT_markUnmerged_22 (by decide) (fun c22 => ?_) (fun c22 => ?_)
        · refine gh_iinc C (nI (i + 1 + 1)) [some (.ref t), some (.int (nI a)), some (.int (nI (i + 1 + 1))), some (.int (nI (pn a (i + 1))))] dT_markUnmerged_38 rfl (gh_inc (i + 1)) rfl ?_
          refine gh_goto C 2 dT_markUnmerged_41 (by decide) ?_
          rw [mk1_s0 K U c22]
          exact ih (i + 1) _ (by omega)
        ·
          refine gh_aload_n C dT_markUnmerged_25 rfl ?_
          refine gh_get C fT_18 hp1.1 rfl dT_markUnmerged_26 ?_
          refine gh_iload_n C dT_markUnmerged_29 rfl ?_
          refine gh_dup2 C dT_markUnmerged_30 rfl rfl ?_
          refine gh_ialdN C (pn a (i + 1)) hp1.2.2.2.1 rfl rfl ⟨by omega, by decide⟩ dT_markUnmerged_31 ?_
          refine gh_iload_n C dT_markUnmerged_32 rfl ?_
          refine gh_callS C [.int (nI a)] (c_bit l d _ (nI a)) lT_55 wG_bit sG_bit rfl rfl (Nat.le_of_ble_eq_true rfl) ⟨Nat.le_of_ble_eq_true rfl, Nat.le_of_ble_eq_true rfl⟩ (Nat.le_of_ble_eq_true rfl) (Nat.le_of_ble_eq_true rfl) dT_markUnmerged_33 (fun v33 g33 h33 => ?_)
          obtain ⟨rfl, rfl⟩ := h33
          refine gh_ior C dT_markUnmerged_36 ?_
          refine gh_iastN C (pn a (i + 1)) hp1.2.2.2.1 rfl rfl ⟨by omega, by decide⟩ dT_markUnmerged_37 ?_
          refine gh_iinc C (nI (i + 1 + 1)) [some (.ref t), some (.int (nI a)), some (.int (nI (i + 1 + 1))), some (.int (nI (pn a (i + 1))))] dT_markUnmerged_38 rfl (gh_inc (i + 1)) rfl ?_
          refine gh_goto C 2 dT_markUnmerged_41 (by decide) ?_
          rw [tset_u, mk1_s1 K U (by omega) (by omega) c22]
          exact ih (i + 1) _ (by omega)
  refine gh_iconst C 1 dT_markUnmerged_0 (by decide) ?_
  refine gh_istore_n C [some (.ref t), some (.int (nI a)), some (.int 1), none] dT_markUnmerged_1 rfl (Nat.le_of_ble_eq_true rfl) ?_
  have h := loop D 0 none (by omega)
  rw [mk1_0, tset_self hp] at h
  exact h
theorem sh1 : ∀ D, D ≤ 4 → ((1 : Int32) <<< (nI D &&& 31)) = nI (2 ^ D) := by decide +kernel
theorem leaf_w : ∀ D, D ≤ 4 → ∀ i, i < 2 ^ D → 2 * i < tW D := by decide +kernel
theorem two_n (i : Nat) : (2 : Int32) * nI i = nI (2 * i) := by rw [show (2 : Int32) = nI 2 from rfl, pk_mul]
set_option maxRecDepth 100000 in
set_option maxHeartbeats 4000000 in
theorem c_firstLeaf (l : Launch) (d : gh_D) (g : gh_H) {e D t ka ba ua : Nat} {K B U : Nat → Int32} (hp : pT g e D t ka ba ua K B U) (s : Nat) (hs : s ≤ 2 ^ D) : gh_C l d mT_firstLeafWithKey (rr 2 0 0) [.ref t, .int (nI s)] g (fun v g1 => (∃ x : Int32, v = some (.int x) ∧ (x = -1 ↔ ∀ i, s ≤ i → i < 2 ^ D → K (2 * i) = -1)) ∧ g1 = g) := by
  refine gh_of [some (.ref t), some (.int (nI s)), none] (by decide) rfl (Nat.le_of_ble_eq_true rfl) (by simp [Value.category]) (fun z C hQ => ?_)
  show gh_W l d z 0 [some (.ref t), some (.int (nI s)), none] [] g 0 0
  have hD := hp.2.2.2.2
  have h16 := pow_le D hD
  have loop : ∀ (c i : Nat), i + c = 2 ^ D → s ≤ i → (∀ j, s ≤ j → j < i → K (2 * j) = -1) → gh_W l d z 2 [some (.ref t), some (.int (nI s)), some (.int (nI i))] [] g 0 0 := by
    intro c
    induction c with
    | zero =>
      intro i hi hsi hb
      have hi : i = 2 ^ D := by omega
      refine gh_iload_n C dT_firstLeafWithKey_2 rfl ?_
      refine gh_iconst C 1 dT_firstLeafWithKey_3 (by decide) ?_
      refine gh_aload_n C dT_firstLeafWithKey_4 rfl ?_
      refine gh_get C fT_27 hp.1 rfl dT_firstLeafWithKey_5 ?_
      refine gh_ishl C dT_firstLeafWithKey_8 ?_
      refine gh_ti (nI (2 ^ D)) (sh1 D hD) ?_
      refine gh_icmp_ge C 32 dT_firstLeafWithKey_9 (by decide) (fun c9 => ?_) (fun c9 => ?_)
      ·
        refine gh_iconst C (-1) dT_firstLeafWithKey_32 (by decide) ?_
        refine gh_iret C hQ rfl dT_firstLeafWithKey_33 ?_
        exact ⟨⟨-1, rfl, ⟨fun _ j h1 h2 => hb j h1 (by omega), fun _ => rfl⟩⟩, rfl⟩
      · exact absurd (nI_le (Nat.le_of_eq hi.symm) (by omega)) c9
    | succ c ih =>
      intro i hi hsi hb
      have hlt : i < 2 ^ D := by omega
      have hv := leaf_w D hD i hlt
      refine gh_iload_n C dT_firstLeafWithKey_2 rfl ?_
      refine gh_iconst C 1 dT_firstLeafWithKey_3 (by decide) ?_
      refine gh_aload_n C dT_firstLeafWithKey_4 rfl ?_
      refine gh_get C fT_27 hp.1 rfl dT_firstLeafWithKey_5 ?_
      refine gh_ishl C dT_firstLeafWithKey_8 ?_
      refine gh_ti (nI (2 ^ D)) (sh1 D hD) ?_
      refine gh_icmp_ge C 32 dT_firstLeafWithKey_9 (by decide) (fun c9 => ?_) (fun c9 => ?_)
      · exact absurd c9 (nI_ge hlt (by omega))
      ·
        refine gh_aload_n C dT_firstLeafWithKey_12 rfl ?_
        refine gh_iload_n C dT_firstLeafWithKey_13 rfl ?_
        refine gh_callS C [.int (nI i)] (c_leafNode l d _ (nI i)) lT_61 wG_leafNode sG_leafNode rfl rfl (Nat.le_of_ble_eq_true rfl) ⟨Nat.le_of_ble_eq_true rfl, Nat.le_of_ble_eq_true rfl⟩ (Nat.le_of_ble_eq_true rfl) (Nat.le_of_ble_eq_true rfl) dT_firstLeafWithKey_14 (fun v14 g14 h14 => ?_)
        obtain ⟨rfl, rfl⟩ := h14
        rw [two_n i]
        refine gh_callV C [.int (nI (2 * i))] (c_keyOf l d _ hp (nI (2 * i))) lT_51 wT_keyOf vT_keyOf hp.1 rfl rfl rfl (Nat.le_of_ble_eq_true rfl) ⟨Nat.le_of_ble_eq_true rfl, Nat.le_of_ble_eq_true rfl⟩ (Nat.le_of_ble_eq_true rfl) (Nat.le_of_ble_eq_true rfl) dT_firstLeafWithKey_17 (fun v17 g17 h17 => ?_)
        obtain ⟨rfl, rfl⟩ := h17
        rw [tkey_n hD hv]
        refine gh_iconst C (-1) dT_firstLeafWithKey_20 (by decide) ?_
        refine gh_icmp_eq C 26 dT_firstLeafWithKey_21 (by decide) (fun c21 => ?_) (fun c21 => ?_)
        ·
          refine gh_iinc C (nI (i + 1)) [some (.ref t), some (.int (nI s)), some (.int (nI (i + 1)))] dT_firstLeafWithKey_26 rfl (gh_inc i) rfl ?_
          refine gh_goto C 2 dT_firstLeafWithKey_29 (by decide) ?_
          exact ih (i + 1) (by omega) (by omega) (fun j h1 h2 => by
            by_cases h : j = i
            · subst h; exact c21
            · exact hb j h1 (by omega))
        ·
          refine gh_iload_n C dT_firstLeafWithKey_24 rfl ?_
          refine gh_iret C hQ rfl dT_firstLeafWithKey_25 ?_
          refine ⟨⟨nI i, rfl, ⟨fun h => absurd h ?_, fun h => absurd (h i hsi hlt) c21⟩⟩, rfl⟩
          intro h
          have := nI_pos (n := i) (by omega)
          rw [h] at this
          exact this (by decide)
  refine gh_iload_n C dT_firstLeafWithKey_0 rfl ?_
  refine gh_istore_n C [some (.ref t), some (.int (nI s)), some (.int (nI s))] dT_firstLeafWithKey_1 rfl (Nat.le_of_ble_eq_true rfl) ?_
  exact loop (2 ^ D - s) s (by omega) (Nat.le_refl s) (fun j h1 h2 => by omega)
/-- the lowest blank leaf, or the number of leaves -/
def fbl (D : Nat) (K : Nat → Int32) : Nat := ((List.range (2 ^ D)).find? (fun i => K (2 * i) == -1)).getD (2 ^ D)
theorem fbl_at {D i : Nat} {K : Nat → Int32} (hi : i < 2 ^ D) (hb : K (2 * i) = -1) (hl : ∀ j, j < i → K (2 * j) ≠ -1) : fbl D K = i := by
  unfold fbl
  have h : (List.range (2 ^ D)).find? (fun i => K (2 * i) == -1) = some i := by
    rw [List.find?_range_eq_some]
    refine ⟨by simp [hb], by simpa using hi, fun j hj => by simp [hl j hj]⟩
  rw [h]; rfl
theorem fbl_no {D : Nat} {K : Nat → Int32} (hl : ∀ j, j < 2 ^ D → K (2 * j) ≠ -1) : fbl D K = 2 ^ D := by
  unfold fbl
  have h : (List.range (2 ^ D)).find? (fun i => K (2 * i) == -1) = none := by
    rw [List.find?_eq_none]
    intro j hj
    rw [List.mem_range] at hj
    simp [hl j hj]
  rw [h]; rfl
set_option maxRecDepth 100000 in
set_option maxHeartbeats 4000000 in
theorem c_makeRoom (l : Launch) (d : gh_D) (g : gh_H) {e D t ka ba ua : Nat} {K B U : Nat → Int32} (hp : pT g e D t ka ba ua K B U) : gh_C l d mT_makeRoom (rr 2 0 0) [.ref t] g (fun v g1 => (fbl D K < 2 ^ D ∧ v = some (.int (nI (fbl D K))) ∧ g1 = g) ∨ (fbl D K = 2 ^ D ∧ D = 4 ∧ v = some (.int (-1)) ∧ g1 = g) ∨ (fbl D K = 2 ^ D ∧ D < 4 ∧ v = some (.int (nI (2 ^ D))) ∧ g1 = gh_u g (13, e) (t, .inr (4, [.int (nI (D + 1)), .ref ka, .ref ba, .ref ua])))) := by
  refine gh_of [some (.ref t), none] (by decide) rfl (Nat.le_of_ble_eq_true rfl) (by simp [Value.category]) (fun z C hQ => ?_)
  show gh_W l d z 0 [some (.ref t), none] [] g 0 0
  have hD := hp.2.2.2.2
  have h16 := pow_le D hD
  have loop : ∀ (c i : Nat), i + c = 2 ^ D → (∀ j, j < i → K (2 * j) ≠ -1) → gh_W l d z 2 [some (.ref t), some (.int (nI i))] [] g 0 0 := by
    intro c
    induction c with
    | zero =>
      intro i hi hb
      have hi : i = 2 ^ D := by omega
      subst hi
      have hf := fbl_no hb
      refine gh_iload_n C dT_makeRoom_2 rfl ?_
      refine gh_iconst C 1 dT_makeRoom_3 (by decide) ?_
      refine gh_aload_n C dT_makeRoom_4 rfl ?_
      refine gh_get C fT_27 hp.1 rfl dT_makeRoom_5 ?_
      refine gh_ishl C dT_makeRoom_8 ?_
      refine gh_ti (nI (2 ^ D)) (sh1 D hD) ?_
      refine gh_icmp_ge C 32 dT_makeRoom_9 (by decide) (fun c9 => ?_) (fun c9 => ?_)
      ·
        refine gh_aload_n C dT_makeRoom_32 rfl ?_
        refine gh_get C fT_27 hp.1 rfl dT_makeRoom_33 ?_
        refine gh_iconst C 4 dT_makeRoom_36 (by decide) ?_
        refine gh_icmp_lt C 42 dT_makeRoom_37 (by decide) (fun c37 => ?_) (fun c37 => ?_)
        ·
          have hD4 : D < 4 := (nI_ltI (a := D) (b := 4) (by omega) (by decide)).mp c37
          refine gh_aload_n C dT_makeRoom_42 rfl ?_
          refine gh_dup C dT_makeRoom_43 rfl ?_
          refine gh_get C fT_27 hp.1 rfl dT_makeRoom_44 ?_
          refine gh_iconst C 1 dT_makeRoom_47 (by decide) ?_
          refine gh_iadd C dT_makeRoom_48 ?_
          refine gh_ti (nI (D + 1)) (nI_1 D) ?_
          refine gh_putL C [.int (nI (D + 1)), .ref ka, .ref ba, .ref ua] pT_27 (by decide) hp.1 rfl (by simp) rfl rfl dT_makeRoom_49 ?_
          refine gh_iconst C 1 dT_makeRoom_52 (by decide) ?_
          refine gh_aload_n C dT_makeRoom_53 rfl ?_
          refine gh_get C fT_27 gh_us rfl dT_makeRoom_54 ?_
          refine gh_iconst C 1 dT_makeRoom_57 (by decide) ?_
          refine gh_isub C dT_makeRoom_58 ?_
          refine gh_ti (nI D) (nI_pred D) ?_
          refine gh_ishl C dT_makeRoom_59 ?_
          refine gh_ti (nI (2 ^ D)) (sh1 D hD) ?_
          refine gh_iret C hQ rfl dT_makeRoom_60 ?_
          first | exact Or.inr (Or.inl ⟨hf, hD4, rfl, rfl⟩) | exact Or.inr (Or.inr ⟨hf, hD4, rfl, rfl⟩)
        ·
          have hD4 : D = 4 := by
            rcases Nat.lt_or_ge D 4 with h | h
            · exact absurd (show nI D < nI 4 from nI_lt h (by decide)) c37
            · omega
          refine gh_iconst C (-1) dT_makeRoom_40 (by decide) ?_
          refine gh_iret C hQ rfl dT_makeRoom_41 ?_
          first | exact Or.inr (Or.inl ⟨hf, hD4, rfl, rfl⟩) | exact Or.inr (Or.inr ⟨hf, hD4, rfl, rfl⟩)
      · exact absurd (nI_le (Nat.le_refl (2 ^ D)) (by omega)) c9
    | succ c ih =>
      intro i hi hb
      have hlt : i < 2 ^ D := by omega
      have hv := leaf_w D hD i hlt
      refine gh_iload_n C dT_makeRoom_2 rfl ?_
      refine gh_iconst C 1 dT_makeRoom_3 (by decide) ?_
      refine gh_aload_n C dT_makeRoom_4 rfl ?_
      refine gh_get C fT_27 hp.1 rfl dT_makeRoom_5 ?_
      refine gh_ishl C dT_makeRoom_8 ?_
      refine gh_ti (nI (2 ^ D)) (sh1 D hD) ?_
      refine gh_icmp_ge C 32 dT_makeRoom_9 (by decide) (fun c9 => ?_) (fun c9 => ?_)
      · exact absurd c9 (nI_ge hlt (by omega))
      ·
        refine gh_aload_n C dT_makeRoom_12 rfl ?_
        refine gh_iload_n C dT_makeRoom_13 rfl ?_
        refine gh_callS C [.int (nI i)] (c_leafNode l d _ (nI i)) lT_61 wG_leafNode sG_leafNode rfl rfl (Nat.le_of_ble_eq_true rfl) ⟨Nat.le_of_ble_eq_true rfl, Nat.le_of_ble_eq_true rfl⟩ (Nat.le_of_ble_eq_true rfl) (Nat.le_of_ble_eq_true rfl) dT_makeRoom_14 (fun v14 g14 h14 => ?_)
        obtain ⟨rfl, rfl⟩ := h14
        rw [two_n i]
        refine gh_callV C [.int (nI (2 * i))] (c_keyOf l d _ hp (nI (2 * i))) lT_51 wT_keyOf vT_keyOf hp.1 rfl rfl rfl (Nat.le_of_ble_eq_true rfl) ⟨Nat.le_of_ble_eq_true rfl, Nat.le_of_ble_eq_true rfl⟩ (Nat.le_of_ble_eq_true rfl) (Nat.le_of_ble_eq_true rfl) dT_makeRoom_17 (fun v17 g17 h17 => ?_)
        obtain ⟨rfl, rfl⟩ := h17
        rw [tkey_n hD hv]
        refine gh_iconst C (-1) dT_makeRoom_20 (by decide) ?_
        refine gh_icmp_ne C 26 dT_makeRoom_21 (by decide) (fun c21 => ?_) (fun c21 => ?_)
        ·
          refine gh_iinc C (nI (i + 1)) [some (.ref t), some (.int (nI (i + 1)))] dT_makeRoom_26 rfl (gh_inc i) rfl ?_
          refine gh_goto C 2 dT_makeRoom_29 (by decide) ?_
          exact ih (i + 1) (by omega) (fun j h2 => by
            by_cases h : j = i
            · subst h; exact c21
            · exact hb j (by omega))
        ·
          refine gh_iload_n C dT_makeRoom_24 rfl ?_
          refine gh_iret C hQ rfl dT_makeRoom_25 ?_
          have hf := fbl_at hlt c21 hb
          exact Or.inl ⟨by rw [hf]; exact hlt, by rw [hf], rfl⟩
  refine gh_iconst C 0 dT_makeRoom_0 (by decide) ?_
  refine gh_istore_n C [some (.ref t), some (.int 0)] dT_makeRoom_1 rfl (Nat.le_of_ble_eq_true rfl) ?_
  exact loop (2 ^ D) 0 (by omega) (fun j h2 => by omega)
