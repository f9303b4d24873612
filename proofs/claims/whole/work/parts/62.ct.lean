set_option maxRecDepth 100000 in
set_option maxHeartbeats 4000000 in
theorem t_offer1 (l : Launch) (htr : l.flags = pinnedFlags ++ [noTraceFlag]) (d : gh_D) (g : gh_H) {Z : ZC} {S : SC} {n : Nat} (hA : cA g Z S n) (x : Int32) (hx : ¬ inn 16 x = true) : gh_CT l d mG_offer (rr 8 1 6) [.ref (Z 1 0), .int x] g "java/lang/IndexOutOfBoundsException" := by
  refine gh_ofT htr [some (.ref (Z 1 0)), some (.int x), none] (by decide) rfl (Nat.le_of_ble_eq_true rfl) (by simp [Value.category]) (fun z C hZ => ?_)
  show gh_W l d z 0 [some (.ref (Z 1 0)), some (.int x), none] [] g 1 6
  refine gh_iload_n C dG_offer_0 rfl ?_
  refine gh_callS C [.int x] (c_isMember l d _ x) lG_83 wG_isMember sG_isMember rfl rfl (Nat.le_of_ble_eq_true rfl) ⟨Nat.le_of_ble_eq_true rfl, Nat.le_of_ble_eq_true rfl⟩ (Nat.le_of_ble_eq_true rfl) (Nat.le_of_ble_eq_true rfl) dG_offer_1 (fun v1 g1 h1 => ?_)
  obtain ⟨rfl, hg1⟩ := h1
  subst g1
  rw [if_neg hx]
  refine gh_if_ne C 15 dG_offer_4 (by decide) (fun c4 => ?_) (fun c4 => ?_)
  · exact absurd rfl c4
  ·
    exact gh_thr C hZ tx_In rfl (by (try dsimp only [rr]); omega) (by (try dsimp only [rr]); omega) ⟨Nat.le_of_ble_eq_true rfl, Nat.le_of_ble_eq_true rfl⟩ (Nat.le_of_ble_eq_true rfl) dG_offer_7 dG_offer_10 dG_offer_11 dG_offer_14
set_option maxRecDepth 100000 in
set_option maxHeartbeats 4000000 in
theorem t_update1 (l : Launch) (htr : l.flags = pinnedFlags ++ [noTraceFlag]) (d : gh_D) (g : gh_H) {Z : ZC} {S : SC} {n : Nat} (hA : cA g Z S n) (x : Int32) (hx : ¬ inn 16 x = true) : gh_CT l d mG_update (rr 8 1 6) [.ref (Z 1 0), .int x] g "java/lang/IndexOutOfBoundsException" := by
  refine gh_ofT htr [some (.ref (Z 1 0)), some (.int x), none, none] (by decide) rfl (Nat.le_of_ble_eq_true rfl) (by simp [Value.category]) (fun z C hZ => ?_)
  show gh_W l d z 0 [some (.ref (Z 1 0)), some (.int x), none, none] [] g 1 6
  refine gh_iload_n C dG_update_0 rfl ?_
  refine gh_callS C [.int x] (c_isMember l d _ x) lG_83 wG_isMember sG_isMember rfl rfl (Nat.le_of_ble_eq_true rfl) ⟨Nat.le_of_ble_eq_true rfl, Nat.le_of_ble_eq_true rfl⟩ (Nat.le_of_ble_eq_true rfl) (Nat.le_of_ble_eq_true rfl) dG_update_1 (fun v1 g1 h1 => ?_)
  obtain ⟨rfl, hg1⟩ := h1
  subst g1
  rw [if_neg hx]
  refine gh_if_ne C 15 dG_update_4 (by decide) (fun c4 => ?_) (fun c4 => ?_)
  · exact absurd rfl c4
  ·
    exact gh_thr C hZ tx_In rfl (by (try dsimp only [rr]); omega) (by (try dsimp only [rr]); omega) ⟨Nat.le_of_ble_eq_true rfl, Nat.le_of_ble_eq_true rfl⟩ (Nat.le_of_ble_eq_true rfl) dG_update_7 dG_update_10 dG_update_11 dG_update_14
set_option maxRecDepth 100000 in
set_option maxHeartbeats 4000000 in
theorem t_come1 (l : Launch) (htr : l.flags = pinnedFlags ++ [noTraceFlag]) (d : gh_D) (g : gh_H) {Z : ZC} {S : SC} {n : Nat} (hA : cA g Z S n) (x : Int32) (hx : ¬ inn 16 x = true) : gh_CT l d mG_come (rr 8 1 6) [.ref (Z 1 0), .int x] g "java/lang/IndexOutOfBoundsException" := by
  refine gh_ofT htr [some (.ref (Z 1 0)), some (.int x), none, none] (by decide) rfl (Nat.le_of_ble_eq_true rfl) (by simp [Value.category]) (fun z C hZ => ?_)
  show gh_W l d z 0 [some (.ref (Z 1 0)), some (.int x), none, none] [] g 1 6
  refine gh_iload_n C dG_come_0 rfl ?_
  refine gh_callS C [.int x] (c_isMember l d _ x) lG_83 wG_isMember sG_isMember rfl rfl (Nat.le_of_ble_eq_true rfl) ⟨Nat.le_of_ble_eq_true rfl, Nat.le_of_ble_eq_true rfl⟩ (Nat.le_of_ble_eq_true rfl) (Nat.le_of_ble_eq_true rfl) dG_come_1 (fun v1 g1 h1 => ?_)
  obtain ⟨rfl, hg1⟩ := h1
  subst g1
  rw [if_neg hx]
  refine gh_if_ne C 15 dG_come_4 (by decide) (fun c4 => ?_) (fun c4 => ?_)
  · exact absurd rfl c4
  ·
    exact gh_thr C hZ tx_In rfl (by (try dsimp only [rr]); omega) (by (try dsimp only [rr]); omega) ⟨Nat.le_of_ble_eq_true rfl, Nat.le_of_ble_eq_true rfl⟩ (Nat.le_of_ble_eq_true rfl) dG_come_7 dG_come_10 dG_come_11 dG_come_14
set_option maxRecDepth 100000 in
set_option maxHeartbeats 4000000 in
theorem t_compromise1 (l : Launch) (htr : l.flags = pinnedFlags ++ [noTraceFlag]) (d : gh_D) (g : gh_H) {Z : ZC} {S : SC} {n : Nat} (hA : cA g Z S n) (x : Int32) (hx : ¬ inn 16 x = true) : gh_CT l d mG_compromise (rr 8 1 6) [.ref (Z 1 0), .int x] g "java/lang/IndexOutOfBoundsException" := by
  refine gh_ofT htr [some (.ref (Z 1 0)), some (.int x), none, none] (by decide) rfl (Nat.le_of_ble_eq_true rfl) (by simp [Value.category]) (fun z C hZ => ?_)
  show gh_W l d z 0 [some (.ref (Z 1 0)), some (.int x), none, none] [] g 1 6
  refine gh_iload_n C dG_compromise_0 rfl ?_
  refine gh_callS C [.int x] (c_isMember l d _ x) lG_83 wG_isMember sG_isMember rfl rfl (Nat.le_of_ble_eq_true rfl) ⟨Nat.le_of_ble_eq_true rfl, Nat.le_of_ble_eq_true rfl⟩ (Nat.le_of_ble_eq_true rfl) (Nat.le_of_ble_eq_true rfl) dG_compromise_1 (fun v1 g1 h1 => ?_)
  obtain ⟨rfl, hg1⟩ := h1
  subst g1
  rw [if_neg hx]
  refine gh_if_ne C 15 dG_compromise_4 (by decide) (fun c4 => ?_) (fun c4 => ?_)
  · exact absurd rfl c4
  ·
    exact gh_thr C hZ tx_In rfl (by (try dsimp only [rr]); omega) (by (try dsimp only [rr]); omega) ⟨Nat.le_of_ble_eq_true rfl, Nat.le_of_ble_eq_true rfl⟩ (Nat.le_of_ble_eq_true rfl) dG_compromise_7 dG_compromise_10 dG_compromise_11 dG_compromise_14
set_option maxRecDepth 100000 in
set_option maxHeartbeats 4000000 in
theorem t_commit1 (l : Launch) (htr : l.flags = pinnedFlags ++ [noTraceFlag]) (d : gh_D) (g : gh_H) {Z : ZC} {S : SC} {n : Nat} (hA : cA g Z S n) (x y : Int32) (hx : ¬ inn 16 x = true) : gh_CT l d mG_commit (rr 8 1 6) [.ref (Z 1 0), .int x, .int y] g "java/lang/IndexOutOfBoundsException" := by
  refine gh_ofT htr [some (.ref (Z 1 0)), some (.int x), some (.int y), none, none, none, none, none, none] (by decide) rfl (Nat.le_of_ble_eq_true rfl) (by simp [Value.category]) (fun z C hZ => ?_)
  show gh_W l d z 0 [some (.ref (Z 1 0)), some (.int x), some (.int y), none, none, none, none, none, none] [] g 1 6
  refine gh_iload_n C dG_commit_0 rfl ?_
  refine gh_callS C [.int x] (c_isMember l d _ x) lG_83 wG_isMember sG_isMember rfl rfl (Nat.le_of_ble_eq_true rfl) ⟨Nat.le_of_ble_eq_true rfl, Nat.le_of_ble_eq_true rfl⟩ (Nat.le_of_ble_eq_true rfl) (Nat.le_of_ble_eq_true rfl) dG_commit_1 (fun v1 g1 h1 => ?_)
  obtain ⟨rfl, hg1⟩ := h1
  subst g1
  rw [if_neg hx]
  refine gh_if_ne C 15 dG_commit_4 (by decide) (fun c4 => ?_) (fun c4 => ?_)
  · exact absurd rfl c4
  ·
    exact gh_thr C hZ tx_In rfl (by (try dsimp only [rr]); omega) (by (try dsimp only [rr]); omega) ⟨Nat.le_of_ble_eq_true rfl, Nat.le_of_ble_eq_true rfl⟩ (Nat.le_of_ble_eq_true rfl) dG_commit_7 dG_commit_10 dG_commit_11 dG_commit_14
set_option maxRecDepth 100000 in
set_option maxHeartbeats 4000000 in
theorem t_offer2 (l : Launch) (htr : l.flags = pinnedFlags ++ [noTraceFlag]) (d : gh_D) (g : gh_H) {Z : ZC} {S : SC} {n : Nat} (hA : cA g Z S n) (m : Nat) (hm : m < 16) (hP : sP S = 60) : gh_CT l d mG_offer (rr 8 1 6) [.ref (Z 1 0), .int (nI m)] g "java/lang/IllegalStateException" := by
  refine gh_ofT htr [some (.ref (Z 1 0)), some (.int (nI m)), none] (by decide) rfl (Nat.le_of_ble_eq_true rfl) (by simp [Value.category]) (fun z C hZ => ?_)
  show gh_W l d z 0 [some (.ref (Z 1 0)), some (.int (nI m)), none] [] g 1 6
  refine gh_iload_n C dG_offer_0 rfl ?_
  refine gh_callS C [.int (nI m)] (c_isMember l d _ (nI m)) lG_83 wG_isMember sG_isMember rfl rfl (Nat.le_of_ble_eq_true rfl) ⟨Nat.le_of_ble_eq_true rfl, Nat.le_of_ble_eq_true rfl⟩ (Nat.le_of_ble_eq_true rfl) (Nat.le_of_ble_eq_true rfl) dG_offer_1 (fun v1 g1 h1 => ?_)
  obtain ⟨rfl, hg1⟩ := h1
  subst g1
  rw [if_pos (inn_n hm (by decide))]
  refine gh_if_ne C 15 dG_offer_4 (by decide) (fun c4 => ?_) (fun c4 => ?_)
  ·
    refine gh_aload_n C dG_offer_15 rfl ?_
    refine gh_get C fG_90 hA.1 rfl dG_offer_16 ?_
    refine gh_bipush C 60 dG_offer_19 (by decide) ?_
    refine gh_icmp_lt C 32 dG_offer_21 (by decide) (fun c21 => ?_) (fun c21 => ?_)
    · exact absurd (show nI (sP S) < nI 60 from c21) (by rw [hP]; decide)
    ·
      exact gh_thr C hZ tx_Il rfl (by (try dsimp only [rr]); omega) (by (try dsimp only [rr]); omega) ⟨Nat.le_of_ble_eq_true rfl, Nat.le_of_ble_eq_true rfl⟩ (Nat.le_of_ble_eq_true rfl) dG_offer_24 dG_offer_27 dG_offer_28 dG_offer_31
  · exact absurd c4 (by decide)
set_option maxRecDepth 100000 in
set_option maxHeartbeats 4000000 in
theorem t_update2 (l : Launch) (htr : l.flags = pinnedFlags ++ [noTraceFlag]) (d : gh_D) (g : gh_H) {Z : ZC} {S : SC} {n : Nat} (hA : cA g Z S n) (m : Nat) (hm : m < 16) (hE1 : 1 ≤ sE S) (hQ1 : sQ S ≤ 20) (hn : ¬ mayp S m = true) : gh_CT l d mG_update (rr 8 1 6) [.ref (Z 1 0), .int (nI m)] g "java/lang/IllegalStateException" := by
  refine gh_ofT htr [some (.ref (Z 1 0)), some (.int (nI m)), none, none] (by decide) rfl (Nat.le_of_ble_eq_true rfl) (by simp [Value.category]) (fun z C hZ => ?_)
  show gh_W l d z 0 [some (.ref (Z 1 0)), some (.int (nI m)), none, none] [] g 1 6
  refine gh_iload_n C dG_update_0 rfl ?_
  refine gh_callS C [.int (nI m)] (c_isMember l d _ (nI m)) lG_83 wG_isMember sG_isMember rfl rfl (Nat.le_of_ble_eq_true rfl) ⟨Nat.le_of_ble_eq_true rfl, Nat.le_of_ble_eq_true rfl⟩ (Nat.le_of_ble_eq_true rfl) (Nat.le_of_ble_eq_true rfl) dG_update_1 (fun v1 g1 h1 => ?_)
  obtain ⟨rfl, hg1⟩ := h1
  subst g1
  rw [if_pos (inn_n hm (by decide))]
  refine gh_if_ne C 15 dG_update_4 (by decide) (fun c4 => ?_) (fun c4 => ?_)
  ·
    refine gh_aload_n C dG_update_15 rfl ?_
    refine gh_iload_n C dG_update_16 rfl ?_
    refine gh_callV C [.int (nI m)] (c_mayPropose l d _ hA.1 hA.2.2.1 m hm hE1 hQ1) lG_98 wG_mayPropose vG_mayPropose hA.1 rfl rfl rfl (Nat.le_of_ble_eq_true rfl) ⟨Nat.le_of_ble_eq_true rfl, Nat.le_of_ble_eq_true rfl⟩ (Nat.le_of_ble_eq_true rfl) (Nat.le_of_ble_eq_true rfl) dG_update_17 (fun v17 g17 h17 => ?_)
    obtain ⟨rfl, hg17⟩ := h17
    subst g17
    rw [if_neg hn]
    refine gh_if_ne C 31 dG_update_20 (by decide) (fun c20 => ?_) (fun c20 => ?_)
    · exact absurd rfl c20
    ·
      exact gh_thr C hZ tx_Il rfl (by (try dsimp only [rr]); omega) (by (try dsimp only [rr]); omega) ⟨Nat.le_of_ble_eq_true rfl, Nat.le_of_ble_eq_true rfl⟩ (Nat.le_of_ble_eq_true rfl) dG_update_23 dG_update_26 dG_update_27 dG_update_30
  · exact absurd c4 (by decide)
set_option maxRecDepth 100000 in
set_option maxHeartbeats 4000000 in
theorem t_add1 (l : Launch) (htr : l.flags = pinnedFlags ++ [noTraceFlag]) (d : gh_D) (g : gh_H) {Z : ZC} {S : SC} {n : Nat} (hA : cA g Z S n) (x y : Int32) (hx : ¬ (inn 16 x = true ∧ inn (sP S) y = true)) : gh_CT l d mG_add (rr 8 1 6) [.ref (Z 1 0), .int x, .int y] g "java/lang/IndexOutOfBoundsException" := by
  refine gh_ofT htr [some (.ref (Z 1 0)), some (.int x), some (.int y)] (by decide) rfl (Nat.le_of_ble_eq_true rfl) (by simp [Value.category]) (fun z C hZ => ?_)
  show gh_W l d z 0 [some (.ref (Z 1 0)), some (.int x), some (.int y)] [] g 1 6
  refine gh_iload_n C dG_add_0 rfl ?_
  refine gh_callS C [.int x] (c_isMember l d _ x) lG_83 wG_isMember sG_isMember rfl rfl (Nat.le_of_ble_eq_true rfl) ⟨Nat.le_of_ble_eq_true rfl, Nat.le_of_ble_eq_true rfl⟩ (Nat.le_of_ble_eq_true rfl) (Nat.le_of_ble_eq_true rfl) dG_add_1 (fun v1 g1 h1 => ?_)
  obtain ⟨rfl, hg1⟩ := h1
  subst g1
  refine gh_if_eq C 19 dG_add_4 (by decide) (fun c4 => ?_) (fun c4 => ?_)
  ·
    have e4 : ¬ inn 16 x = true := fun h => by rw [if_pos h] at c4; exact absurd c4 (by decide)
    exact gh_thr C hZ tx_In rfl (by (try dsimp only [rr]); omega) (by (try dsimp only [rr]); omega) ⟨Nat.le_of_ble_eq_true rfl, Nat.le_of_ble_eq_true rfl⟩ (Nat.le_of_ble_eq_true rfl) dG_add_19 dG_add_22 dG_add_23 dG_add_26
  ·
    have e4 : inn 16 x = true := by
      by_cases h : inn 16 x = true
      · exact h
      · rw [if_neg h] at c4; exact absurd rfl c4
    refine gh_iload_n C dG_add_7 rfl ?_
    refine gh_if_lt C 19 dG_add_8 (by decide) (fun c8 => ?_) (fun c8 => ?_)
    ·
      exact gh_thr C hZ tx_In rfl (by (try dsimp only [rr]); omega) (by (try dsimp only [rr]); omega) ⟨Nat.le_of_ble_eq_true rfl, Nat.le_of_ble_eq_true rfl⟩ (Nat.le_of_ble_eq_true rfl) dG_add_19 dG_add_22 dG_add_23 dG_add_26
    ·
      refine gh_iload_n C dG_add_11 rfl ?_
      refine gh_aload_n C dG_add_12 rfl ?_
      refine gh_get C fG_90 hA.1 rfl dG_add_13 ?_
      refine gh_icmp_lt C 27 dG_add_16 (by decide) (fun c16 => ?_) (fun c16 => ?_)
      · exact absurd (show inn (sP S) y = true from inn_3 c8 (Int32.not_le.mpr c16)) (fun h => hx ⟨e4, h⟩)
      ·
        exact gh_thr C hZ tx_In rfl (by (try dsimp only [rr]); omega) (by (try dsimp only [rr]); omega) ⟨Nat.le_of_ble_eq_true rfl, Nat.le_of_ble_eq_true rfl⟩ (Nat.le_of_ble_eq_true rfl) dG_add_19 dG_add_22 dG_add_23 dG_add_26
set_option maxRecDepth 100000 in
set_option maxHeartbeats 4000000 in
theorem t_add2 (l : Launch) (htr : l.flags = pinnedFlags ++ [noTraceFlag]) (d : gh_D) (g : gh_H) {Z : ZC} {S : SC} {n : Nat} (hA : cA g Z S n) (m : Nat) (y : Int32) (hm : m < 16) (hy : inn (sP S) y = true) (hP60 : sP S ≤ 60) (hE1 : 1 ≤ sE S) (hQ1 : sQ S ≤ 20) (hn : ¬ mayp S m = true) : gh_CT l d mG_add (rr 8 1 6) [.ref (Z 1 0), .int (nI m), .int y] g "java/lang/IllegalStateException" := by
  obtain ⟨j, hj, hyj⟩ := inn_of (n := sP S) (by omega) hy
  refine gh_ofT htr [some (.ref (Z 1 0)), some (.int (nI m)), some (.int y)] (by decide) rfl (Nat.le_of_ble_eq_true rfl) (by simp [Value.category]) (fun z C hZ => ?_)
  show gh_W l d z 0 [some (.ref (Z 1 0)), some (.int (nI m)), some (.int y)] [] g 1 6
  refine gh_iload_n C dG_add_0 rfl ?_
  refine gh_callS C [.int (nI m)] (c_isMember l d _ (nI m)) lG_83 wG_isMember sG_isMember rfl rfl (Nat.le_of_ble_eq_true rfl) ⟨Nat.le_of_ble_eq_true rfl, Nat.le_of_ble_eq_true rfl⟩ (Nat.le_of_ble_eq_true rfl) (Nat.le_of_ble_eq_true rfl) dG_add_1 (fun v1 g1 h1 => ?_)
  obtain ⟨rfl, hg1⟩ := h1
  subst g1
  rw [if_pos (inn_n hm (by decide))]
  refine gh_if_eq C 19 dG_add_4 (by decide) (fun c4 => ?_) (fun c4 => ?_)
  · exact absurd c4 (by decide)
  ·
    refine gh_iload_n C dG_add_7 rfl ?_
    refine gh_if_lt C 19 dG_add_8 (by decide) (fun c8 => ?_) (fun c8 => ?_)
    · exact absurd c8 (by rw [hyj]; exact nI_pos (by omega))
    ·
      refine gh_iload_n C dG_add_11 rfl ?_
      refine gh_aload_n C dG_add_12 rfl ?_
      refine gh_get C fG_90 hA.1 rfl dG_add_13 ?_
      refine gh_icmp_lt C 27 dG_add_16 (by decide) (fun c16 => ?_) (fun c16 => ?_)
      ·
        refine gh_aload_n C dG_add_27 rfl ?_
        refine gh_iload_n C dG_add_28 rfl ?_
        refine gh_callV C [.int (nI m)] (c_mayPropose l d _ hA.1 hA.2.2.1 m hm hE1 hQ1) lG_98 wG_mayPropose vG_mayPropose hA.1 rfl rfl rfl (Nat.le_of_ble_eq_true rfl) ⟨Nat.le_of_ble_eq_true rfl, Nat.le_of_ble_eq_true rfl⟩ (Nat.le_of_ble_eq_true rfl) (Nat.le_of_ble_eq_true rfl) dG_add_29 (fun v29 g29 h29 => ?_)
        obtain ⟨rfl, hg29⟩ := h29
        subst g29
        rw [if_neg hn]
        refine gh_if_ne C 43 dG_add_32 (by decide) (fun c32 => ?_) (fun c32 => ?_)
        · exact absurd rfl c32
        ·
          exact gh_thr C hZ tx_Il rfl (by (try dsimp only [rr]); omega) (by (try dsimp only [rr]); omega) ⟨Nat.le_of_ble_eq_true rfl, Nat.le_of_ble_eq_true rfl⟩ (Nat.le_of_ble_eq_true rfl) dG_add_35 dG_add_38 dG_add_39 dG_add_42
      · exact absurd (show y < nI (sP S) by rw [hyj]; exact nI_lt hj (by omega)) c16
set_option maxRecDepth 100000 in
set_option maxHeartbeats 4000000 in
theorem t_remove1 (l : Launch) (htr : l.flags = pinnedFlags ++ [noTraceFlag]) (d : gh_D) (g : gh_H) {Z : ZC} {S : SC} {n : Nat} (hA : cA g Z S n) (x y : Int32) (hx : ¬ (inn 16 x = true ∧ inn (16) y = true)) : gh_CT l d mG_remove (rr 8 1 6) [.ref (Z 1 0), .int x, .int y] g "java/lang/IndexOutOfBoundsException" := by
  refine gh_ofT htr [some (.ref (Z 1 0)), some (.int x), some (.int y)] (by decide) rfl (Nat.le_of_ble_eq_true rfl) (by simp [Value.category]) (fun z C hZ => ?_)
  show gh_W l d z 0 [some (.ref (Z 1 0)), some (.int x), some (.int y)] [] g 1 6
  refine gh_iload_n C dG_remove_0 rfl ?_
  refine gh_callS C [.int x] (c_isMember l d _ x) lG_83 wG_isMember sG_isMember rfl rfl (Nat.le_of_ble_eq_true rfl) ⟨Nat.le_of_ble_eq_true rfl, Nat.le_of_ble_eq_true rfl⟩ (Nat.le_of_ble_eq_true rfl) (Nat.le_of_ble_eq_true rfl) dG_remove_1 (fun v1 g1 h1 => ?_)
  obtain ⟨rfl, hg1⟩ := h1
  subst g1
  refine gh_if_eq C 17 dG_remove_4 (by decide) (fun c4 => ?_) (fun c4 => ?_)
  ·
    have e4 : ¬ inn 16 x = true := fun h => by rw [if_pos h] at c4; exact absurd c4 (by decide)
    exact gh_thr C hZ tx_In rfl (by (try dsimp only [rr]); omega) (by (try dsimp only [rr]); omega) ⟨Nat.le_of_ble_eq_true rfl, Nat.le_of_ble_eq_true rfl⟩ (Nat.le_of_ble_eq_true rfl) dG_remove_17 dG_remove_20 dG_remove_21 dG_remove_24
  ·
    have e4 : inn 16 x = true := by
      by_cases h : inn 16 x = true
      · exact h
      · rw [if_neg h] at c4; exact absurd rfl c4
    refine gh_iload_n C dG_remove_7 rfl ?_
    refine gh_if_lt C 17 dG_remove_8 (by decide) (fun c8 => ?_) (fun c8 => ?_)
    ·
      exact gh_thr C hZ tx_In rfl (by (try dsimp only [rr]); omega) (by (try dsimp only [rr]); omega) ⟨Nat.le_of_ble_eq_true rfl, Nat.le_of_ble_eq_true rfl⟩ (Nat.le_of_ble_eq_true rfl) dG_remove_17 dG_remove_20 dG_remove_21 dG_remove_24
    ·
      refine gh_iload_n C dG_remove_11 rfl ?_
      refine gh_bipush C 16 dG_remove_12 (by decide) ?_
      refine gh_icmp_lt C 25 dG_remove_14 (by decide) (fun c14 => ?_) (fun c14 => ?_)
      · exact absurd (show inn (16) y = true from inn_3 c8 (Int32.not_le.mpr c14)) (fun h => hx ⟨e4, h⟩)
      ·
        exact gh_thr C hZ tx_In rfl (by (try dsimp only [rr]); omega) (by (try dsimp only [rr]); omega) ⟨Nat.le_of_ble_eq_true rfl, Nat.le_of_ble_eq_true rfl⟩ (Nat.le_of_ble_eq_true rfl) dG_remove_17 dG_remove_20 dG_remove_21 dG_remove_24
set_option maxRecDepth 100000 in
set_option maxHeartbeats 4000000 in
theorem t_remove2 (l : Launch) (htr : l.flags = pinnedFlags ++ [noTraceFlag]) (d : gh_D) (g : gh_H) {Z : ZC} {S : SC} {n : Nat} (hA : cA g Z S n) (m : Nat) (y : Int32) (hm : m < 16) (hy : inn (16) y = true) (hP60 : sP S ≤ 60) (hE1 : 1 ≤ sE S) (hQ1 : sQ S ≤ 20) (hn : ¬ mayp S m = true) : gh_CT l d mG_remove (rr 8 1 6) [.ref (Z 1 0), .int (nI m), .int y] g "java/lang/IllegalStateException" := by
  obtain ⟨j, hj, hyj⟩ := inn_of (n := 16) (by omega) hy
  refine gh_ofT htr [some (.ref (Z 1 0)), some (.int (nI m)), some (.int y)] (by decide) rfl (Nat.le_of_ble_eq_true rfl) (by simp [Value.category]) (fun z C hZ => ?_)
  show gh_W l d z 0 [some (.ref (Z 1 0)), some (.int (nI m)), some (.int y)] [] g 1 6
  refine gh_iload_n C dG_remove_0 rfl ?_
  refine gh_callS C [.int (nI m)] (c_isMember l d _ (nI m)) lG_83 wG_isMember sG_isMember rfl rfl (Nat.le_of_ble_eq_true rfl) ⟨Nat.le_of_ble_eq_true rfl, Nat.le_of_ble_eq_true rfl⟩ (Nat.le_of_ble_eq_true rfl) (Nat.le_of_ble_eq_true rfl) dG_remove_1 (fun v1 g1 h1 => ?_)
  obtain ⟨rfl, hg1⟩ := h1
  subst g1
  rw [if_pos (inn_n hm (by decide))]
  refine gh_if_eq C 17 dG_remove_4 (by decide) (fun c4 => ?_) (fun c4 => ?_)
  · exact absurd c4 (by decide)
  ·
    refine gh_iload_n C dG_remove_7 rfl ?_
    refine gh_if_lt C 17 dG_remove_8 (by decide) (fun c8 => ?_) (fun c8 => ?_)
    · exact absurd c8 (by rw [hyj]; exact nI_pos (by omega))
    ·
      refine gh_iload_n C dG_remove_11 rfl ?_
      refine gh_bipush C 16 dG_remove_12 (by decide) ?_
      refine gh_icmp_lt C 25 dG_remove_14 (by decide) (fun c14 => ?_) (fun c14 => ?_)
      ·
        refine gh_aload_n C dG_remove_25 rfl ?_
        refine gh_iload_n C dG_remove_26 rfl ?_
        refine gh_callV C [.int (nI m)] (c_mayPropose l d _ hA.1 hA.2.2.1 m hm hE1 hQ1) lG_98 wG_mayPropose vG_mayPropose hA.1 rfl rfl rfl (Nat.le_of_ble_eq_true rfl) ⟨Nat.le_of_ble_eq_true rfl, Nat.le_of_ble_eq_true rfl⟩ (Nat.le_of_ble_eq_true rfl) (Nat.le_of_ble_eq_true rfl) dG_remove_27 (fun v27 g27 h27 => ?_)
        obtain ⟨rfl, hg27⟩ := h27
        subst g27
        rw [if_neg hn]
        refine gh_if_ne C 41 dG_remove_30 (by decide) (fun c30 => ?_) (fun c30 => ?_)
        · exact absurd rfl c30
        ·
          exact gh_thr C hZ tx_Il rfl (by (try dsimp only [rr]); omega) (by (try dsimp only [rr]); omega) ⟨Nat.le_of_ble_eq_true rfl, Nat.le_of_ble_eq_true rfl⟩ (Nat.le_of_ble_eq_true rfl) dG_remove_33 dG_remove_36 dG_remove_37 dG_remove_40
      · exact absurd (show y < nI (16) by rw [hyj]; exact nI_lt hj (by omega)) c14
set_option maxRecDepth 100000 in
set_option maxHeartbeats 4000000 in
theorem t_commit2 (l : Launch) (htr : l.flags = pinnedFlags ++ [noTraceFlag]) (d : gh_D) (g : gh_H) {Z : ZC} {S : SC} {n : Nat} (hA : cA g Z S n) (m : Nat) (y : Int32) (hm : m < 16) (hE1 : 1 ≤ sE S) (hE60 : sE S ≤ 60) (hn : ¬ (lat S m = true ∧ sE S < 60)) : gh_CT l d mG_commit (rr 8 1 6) [.ref (Z 1 0), .int (nI m), .int y] g "java/lang/IllegalStateException" := by
  refine gh_ofT htr [some (.ref (Z 1 0)), some (.int (nI m)), some (.int y), none, none, none, none, none, none] (by decide) rfl (Nat.le_of_ble_eq_true rfl) (by simp [Value.category]) (fun z C hZ => ?_)
  show gh_W l d z 0 [some (.ref (Z 1 0)), some (.int (nI m)), some (.int y), none, none, none, none, none, none] [] g 1 6
  refine gh_iload_n C dG_commit_0 rfl ?_
  refine gh_callS C [.int (nI m)] (c_isMember l d _ (nI m)) lG_83 wG_isMember sG_isMember rfl rfl (Nat.le_of_ble_eq_true rfl) ⟨Nat.le_of_ble_eq_true rfl, Nat.le_of_ble_eq_true rfl⟩ (Nat.le_of_ble_eq_true rfl) (Nat.le_of_ble_eq_true rfl) dG_commit_1 (fun v1 g1 h1 => ?_)
  obtain ⟨rfl, hg1⟩ := h1
  subst g1
  rw [if_pos (inn_n hm (by decide))]
  refine gh_if_ne C 15 dG_commit_4 (by decide) (fun c4 => ?_) (fun c4 => ?_)
  ·
    refine gh_aload_n C dG_commit_15 rfl ?_
    refine gh_iload_n C dG_commit_16 rfl ?_
    refine gh_callV C [.int (nI m)] (c_isInLatest l d _ hA.1 hA.2.2.1 m hm hE1) lG_113 wG_isInLatest vG_isInLatest hA.1 rfl rfl rfl (Nat.le_of_ble_eq_true rfl) ⟨Nat.le_of_ble_eq_true rfl, Nat.le_of_ble_eq_true rfl⟩ (Nat.le_of_ble_eq_true rfl) (Nat.le_of_ble_eq_true rfl) dG_commit_17 (fun v17 g17 h17 => ?_)
    obtain ⟨rfl, hg17⟩ := h17
    subst g17
    refine gh_if_eq C 32 dG_commit_20 (by decide) (fun c20 => ?_) (fun c20 => ?_)
    ·
      have e20 : ¬ lat S m = true := fun h => by rw [if_pos h] at c20; exact absurd c20 (by decide)
      exact gh_thr C hZ tx_Il rfl (by (try dsimp only [rr]); omega) (by (try dsimp only [rr]); omega) ⟨Nat.le_of_ble_eq_true rfl, Nat.le_of_ble_eq_true rfl⟩ (Nat.le_of_ble_eq_true rfl) dG_commit_32 dG_commit_35 dG_commit_36 dG_commit_39
    ·
      have e20 : lat S m = true := by
        by_cases h : lat S m = true
        · exact h
        · rw [if_neg h] at c20; exact absurd rfl c20
      refine gh_aload_n C dG_commit_23 rfl ?_
      refine gh_get C fG_76 hA.1 rfl dG_commit_24 ?_
      refine gh_bipush C 60 dG_commit_27 (by decide) ?_
      refine gh_icmp_lt C 40 dG_commit_29 (by decide) (fun c29 => ?_) (fun c29 => ?_)
      · exact absurd (show nI (sE S) < nI 60 from c29) (nI_nlt (show 60 ≤ sE S from Nat.le_of_not_lt (fun h => hn ⟨e20, h⟩)) (by omega))
      ·
        exact gh_thr C hZ tx_Il rfl (by (try dsimp only [rr]); omega) (by (try dsimp only [rr]); omega) ⟨Nat.le_of_ble_eq_true rfl, Nat.le_of_ble_eq_true rfl⟩ (Nat.le_of_ble_eq_true rfl) dG_commit_32 dG_commit_35 dG_commit_36 dG_commit_39
  · exact absurd c4 (by decide)
set_option maxRecDepth 100000 in
set_option maxHeartbeats 4000000 in
theorem t_come2 (l : Launch) (htr : l.flags = pinnedFlags ++ [noTraceFlag]) (d : gh_D) (g : gh_H) {Z : ZC} {S : SC} {n : Nat} (hA : cA g Z S n) (m : Nat) (hm : m < 16) (hE1 : 1 ≤ sE S) (h0 : S.2.1 0 m ≠ -1) (h1 : ¬ S.2.1 0 m < nI (sE S - 1)) : gh_CT l d mG_come (rr 8 1 6) [.ref (Z 1 0), .int (nI m)] g "java/lang/IllegalStateException" := by
  obtain ⟨⟨qm, hqm, hqm2⟩, hM2⟩ := id hA.2.2.1
  have hmm := hM2 m hm
  refine gh_ofT htr [some (.ref (Z 1 0)), some (.int (nI m)), none, none] (by decide) rfl (Nat.le_of_ble_eq_true rfl) (by simp [Value.category]) (fun z C hZ => ?_)
  show gh_W l d z 0 [some (.ref (Z 1 0)), some (.int (nI m)), none, none] [] g 1 6
  refine gh_iload_n C dG_come_0 rfl ?_
  refine gh_callS C [.int (nI m)] (c_isMember l d _ (nI m)) lG_83 wG_isMember sG_isMember rfl rfl (Nat.le_of_ble_eq_true rfl) ⟨Nat.le_of_ble_eq_true rfl, Nat.le_of_ble_eq_true rfl⟩ (Nat.le_of_ble_eq_true rfl) (Nat.le_of_ble_eq_true rfl) dG_come_1 (fun v1 g1 h1 => ?_)
  obtain ⟨rfl, hg1⟩ := h1
  subst g1
  rw [if_pos (inn_n hm (by decide))]
  refine gh_if_ne C 15 dG_come_4 (by decide) (fun c4 => ?_) (fun c4 => ?_)
  ·
    refine gh_aload_n C dG_come_15 rfl ?_
    refine gh_get C fG_18 hA.1 rfl dG_come_16 ?_
    refine gh_iload_n C dG_come_19 rfl ?_
    refine gh_aaldN C (m) hqm rfl rfl ⟨hm, by decide⟩ dG_come_20 ?_
    refine gh_tr (some (Z 8 m)) (hqm2 m hm) ?_
    refine gh_astore_n C [some (.ref (Z 1 0)), some (.int (nI m)), some (.ref (Z 8 m)), none] dG_come_21 rfl (Nat.le_of_ble_eq_true rfl) ?_
    refine gh_aload_n C dG_come_22 rfl ?_
    refine gh_get C fG_161 hmm.1 rfl dG_come_23 ?_
    refine gh_iconst C (-1) dG_come_26 (by decide) ?_
    refine gh_icmp_eq C 71 dG_come_27 (by decide) (fun c27 => ?_) (fun c27 => ?_)
    · exact absurd c27 h0
    ·
      refine gh_aload_n C dG_come_30 rfl ?_
      refine gh_get C fG_161 hmm.1 rfl dG_come_31 ?_
      refine gh_aload_n C dG_come_34 rfl ?_
      refine gh_get C fG_76 hA.1 rfl dG_come_35 ?_
      refine gh_iconst C 1 dG_come_38 (by decide) ?_
      refine gh_isub C dG_come_39 ?_
      refine gh_ti (nI (sE S - 1)) (pred_n hE1) ?_
      refine gh_icmp_lt C 51 dG_come_40 (by decide) (fun c40 => ?_) (fun c40 => ?_)
      · exact absurd c40 h1
      ·
        exact gh_thr C hZ tx_Il rfl (by (try dsimp only [rr]); omega) (by (try dsimp only [rr]); omega) ⟨Nat.le_of_ble_eq_true rfl, Nat.le_of_ble_eq_true rfl⟩ (Nat.le_of_ble_eq_true rfl) dG_come_43 dG_come_46 dG_come_47 dG_come_50
  · exact absurd c4 (by decide)
set_option maxRecDepth 100000 in
set_option maxHeartbeats 4000000 in
theorem t_come3 (l : Launch) (htr : l.flags = pinnedFlags ++ [noTraceFlag]) (d : gh_D) (g : gh_H) {Z : ZC} {S : SC} {n : Nat} (hA : cA g Z S n) (m : Nat) (hm : m < 16) (hP60 : sP S ≤ 60) (h0 : S.2.1 0 m = -1) (h1 : ew S m (sP S) = none) : gh_CT l d mG_come (rr 8 1 6) [.ref (Z 1 0), .int (nI m)] g "java/lang/IllegalStateException" := by
  obtain ⟨⟨qm, hqm, hqm2⟩, hM2⟩ := id hA.2.2.1
  have hmm := hM2 m hm
  refine gh_ofT htr [some (.ref (Z 1 0)), some (.int (nI m)), none, none] (by decide) rfl (Nat.le_of_ble_eq_true rfl) (by simp [Value.category]) (fun z C hZ => ?_)
  show gh_W l d z 0 [some (.ref (Z 1 0)), some (.int (nI m)), none, none] [] g 1 6
  refine gh_iload_n C dG_come_0 rfl ?_
  refine gh_callS C [.int (nI m)] (c_isMember l d _ (nI m)) lG_83 wG_isMember sG_isMember rfl rfl (Nat.le_of_ble_eq_true rfl) ⟨Nat.le_of_ble_eq_true rfl, Nat.le_of_ble_eq_true rfl⟩ (Nat.le_of_ble_eq_true rfl) (Nat.le_of_ble_eq_true rfl) dG_come_1 (fun v1 g1 h1 => ?_)
  obtain ⟨rfl, hg1⟩ := h1
  subst g1
  rw [if_pos (inn_n hm (by decide))]
  refine gh_if_ne C 15 dG_come_4 (by decide) (fun c4 => ?_) (fun c4 => ?_)
  ·
    refine gh_aload_n C dG_come_15 rfl ?_
    refine gh_get C fG_18 hA.1 rfl dG_come_16 ?_
    refine gh_iload_n C dG_come_19 rfl ?_
    refine gh_aaldN C (m) hqm rfl rfl ⟨hm, by decide⟩ dG_come_20 ?_
    refine gh_tr (some (Z 8 m)) (hqm2 m hm) ?_
    refine gh_astore_n C [some (.ref (Z 1 0)), some (.int (nI m)), some (.ref (Z 8 m)), none] dG_come_21 rfl (Nat.le_of_ble_eq_true rfl) ?_
    refine gh_aload_n C dG_come_22 rfl ?_
    refine gh_get C fG_161 hmm.1 rfl dG_come_23 ?_
    refine gh_iconst C (-1) dG_come_26 (by decide) ?_
    refine gh_icmp_eq C 71 dG_come_27 (by decide) (fun c27 => ?_) (fun c27 => ?_)
    ·
      refine gh_aload_n C dG_come_71 rfl ?_
      refine gh_iload_n C dG_come_72 rfl ?_
      refine gh_callV C [.int (nI m)] (c_earliest l d _ hA.1 hA.2.2.2.2.1 m hP60) lG_167 wG_earliestWelcome vG_earliestWelcome hA.1 rfl rfl rfl (Nat.le_of_ble_eq_true rfl) ⟨Nat.le_of_ble_eq_true rfl, Nat.le_of_ble_eq_true rfl⟩ (Nat.le_of_ble_eq_true rfl) (Nat.le_of_ble_eq_true rfl) dG_come_73 (fun v73 g73 h73 => ?_)
      obtain ⟨rfl, hg73⟩ := h73
      subst g73
      rw [h1]
      refine gh_istore_n C [some (.ref (Z 1 0)), some (.int (nI m)), some (.ref (Z 8 m)), some (.int (-1))] dG_come_76 rfl (Nat.le_of_ble_eq_true rfl) ?_
      refine gh_iload_n C dG_come_77 rfl ?_
      refine gh_iconst C (-1) dG_come_78 (by decide) ?_
      refine gh_icmp_ne C 90 dG_come_79 (by decide) (fun c79 => ?_) (fun c79 => ?_)
      · exact absurd rfl c79
      ·
        exact gh_thr C hZ tx_Il rfl (by (try dsimp only [rr]); omega) (by (try dsimp only [rr]); omega) ⟨Nat.le_of_ble_eq_true rfl, Nat.le_of_ble_eq_true rfl⟩ (Nat.le_of_ble_eq_true rfl) dG_come_82 dG_come_85 dG_come_86 dG_come_89
    · exact absurd h0 c27
  · exact absurd c4 (by decide)
