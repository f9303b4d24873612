/-! THE LAW'S HELPERS -/
theorem hw_offer : gh_MH mL_offer [(0, 9, 12, 13), (0, 9, 15, 15)] 3 := ⟨gh_in 390 (by decide +kernel) rfl, gh_in 60 (by decide +kernel) rfl, gh_in 389 (by decide +kernel) rfl, by decide +kernel, by decide +kernel, by decide +kernel⟩
theorem hk_offer {l : Launch} {d : gh_D} {g : gh_H} {ax ao : Nat} {fs : List Value} {f0 : Nat → Int64} (x : Int32) (h1 : g (1, 0) = some (ax, .inr (0, fs))) (ho : g (50, 0) = some (ao, .inl (3, 1, .inr (.inl f0)))) {n c s : Nat} (hn : n ≤ 10) {Po : Option Value → gh_H → Prop} (hM : gh_C l d mG_offer (rr n c s) [.ref ax, .int x] g Po) (hP : ∀ v g1, Po v g1 → (∃ w, v = some (.int w)) ∧ g1 (50, 0) = g (50, 0)) : gh_CW l d mL_offer [(0, 9, 12, 13), (0, 9, 15, 15)] (rr 12 c s) [.ref ax, .int x, .ref ao] g (fun v g1 => v = some (.int 0) ∧ ∃ (w : Int32) (g0 : gh_H), Po (some (.int w)) g0 ∧ g1 = gh_u g0 (50, 0) (ao, .inl (3, 1, .inr (.inl (vp_updL f0 (0 : Int32).toNatClampNeg w.toInt64))))) := by
  refine gh_ofW [some (.ref ax), some (.int x), some (.ref ao), none] (by decide) rfl (Nat.le_of_ble_eq_true rfl) (by simp [Value.category]) (fun z C hQ hZ hH => ?_)
  show gh_W l d z 0 [some (.ref ax), some (.int x), some (.ref ao), none] [] g c s
  refine gh_aload_n C dL_offer_0 rfl ?_
  refine gh_iconst C 0 dL_offer_1 (by decide) ?_
  refine gh_aload_n C dL_offer_2 rfl ?_
  refine gh_iload_n C dL_offer_3 rfl ?_
  refine gh_callV C [.int x] hM lL_7 wG_offer vG_offer h1 rfl rfl rfl (Nat.le_of_ble_eq_true rfl) ⟨by show n + 1 ≤ 12; omega, by have h9 : mG_offer.2.2.1 ≤ 20 := (by decide); show 8 + (mG_offer.2.2.1 + 11) + 40 * n ≤ 40 * 12; omega⟩ (Nat.le_refl _) (Nat.le_refl _) dL_offer_4 (fun v1 g1 k1 => ?_)
  obtain ⟨⟨w, rfl⟩, e50⟩ := hP v1 g1 k1
  refine gh_i2l C dL_offer_7 ?_
  refine gh_last C (K := (50, 0)) (t := 3) (e50.trans ho) rfl (by unfold vp_in; decide) dL_offer_8 ?_
  refine gh_goto C 18 dL_offer_9 (by decide) ?_
  refine gh_iconst C 0 dL_offer_18 (by decide) ?_
  refine gh_iret C hQ rfl dL_offer_19 ?_
  exact ⟨rfl, w, g1, k1, rfl⟩
theorem hx_offer {l : Launch} {d : gh_D} {g : gh_H} {ax ao : Nat} {fs : List Value} {f0 : Nat → Int64} (x : Int32) (h1 : g (1, 0) = some (ax, .inr (0, fs))) (ho : g (50, 0) = some (ao, .inl (3, 1, .inr (.inl f0)))) (hM : gh_CT l d mG_offer (rr 8 1 6) [.ref ax, .int x] g xIO) : gh_CW l d mL_offer [(0, 9, 12, 13), (0, 9, 15, 15)] (rr 12 1 6) [.ref ax, .int x, .ref ao] g (fun v g1 => v = some (.int 1) ∧ g1 = g) := by
  refine gh_ofW [some (.ref ax), some (.int x), some (.ref ao), none] (by decide) rfl (Nat.le_of_ble_eq_true rfl) (by simp [Value.category]) (fun z C hQ hZ hH => ?_)
  show gh_W l d z 0 [some (.ref ax), some (.int x), some (.ref ao), none] [] g 1 6
  refine gh_aload_n C dL_offer_0 rfl ?_
  refine gh_iconst C 0 dL_offer_1 (by decide) ?_
  refine gh_aload_n C dL_offer_2 rfl ?_
  refine gh_iload_n C dL_offer_3 rfl ?_
  refine gh_callVT C hZ hH [.int x] hM rfl (gh_in 393 (by decide +kernel) rfl) wG_offer vG_offer h1 rfl rfl rfl (Nat.le_of_ble_eq_true rfl) ⟨Nat.le_of_ble_eq_true rfl, Nat.le_of_ble_eq_true rfl⟩ (Nat.le_refl _) (Nat.le_refl _) dL_offer_4 [] ⟨0, 9, 12, 13⟩ [⟨0, 9, 15, 15⟩] rfl (fun y hy => by cases hy) (by decide) (Or.inl ⟨rfl, rfl⟩) (fun q => ?_)
  refine gh_astore_n C [some (.ref ax), some (.int x), some (.ref ao), some (.ref q)] dL_offer_12 rfl (Nat.le_of_ble_eq_true rfl) ?_
  refine gh_iconst C 1 dL_offer_13 (by decide) ?_
  refine gh_iret C hQ rfl dL_offer_14 ?_
  exact ⟨rfl, rfl⟩
theorem hy_offer {l : Launch} {d : gh_D} {g : gh_H} {ax ao : Nat} {fs : List Value} {f0 : Nat → Int64} (x : Int32) (h1 : g (1, 0) = some (ax, .inr (0, fs))) (ho : g (50, 0) = some (ao, .inl (3, 1, .inr (.inl f0)))) (hM : gh_CT l d mG_offer (rr 8 1 6) [.ref ax, .int x] g xIL) : gh_CW l d mL_offer [(0, 9, 12, 13), (0, 9, 15, 15)] (rr 12 1 6) [.ref ax, .int x, .ref ao] g (fun v g1 => v = some (.int 2) ∧ g1 = g) := by
  refine gh_ofW [some (.ref ax), some (.int x), some (.ref ao), none] (by decide) rfl (Nat.le_of_ble_eq_true rfl) (by simp [Value.category]) (fun z C hQ hZ hH => ?_)
  show gh_W l d z 0 [some (.ref ax), some (.int x), some (.ref ao), none] [] g 1 6
  refine gh_aload_n C dL_offer_0 rfl ?_
  refine gh_iconst C 0 dL_offer_1 (by decide) ?_
  refine gh_aload_n C dL_offer_2 rfl ?_
  refine gh_iload_n C dL_offer_3 rfl ?_
  refine gh_callVT C hZ hH [.int x] hM rfl (gh_in 393 (by decide +kernel) rfl) wG_offer vG_offer h1 rfl rfl rfl (Nat.le_of_ble_eq_true rfl) ⟨Nat.le_of_ble_eq_true rfl, Nat.le_of_ble_eq_true rfl⟩ (Nat.le_refl _) (Nat.le_refl _) dL_offer_4 [⟨0, 9, 12, 13⟩] ⟨0, 9, 15, 15⟩ [] rfl (fun y hy => by cases List.mem_singleton.mp hy; exact ⟨rfl, rfl⟩) (by decide) (Or.inr ⟨rfl, rfl⟩) (fun q => ?_)
  refine gh_astore_n C [some (.ref ax), some (.int x), some (.ref ao), some (.ref q)] dL_offer_15 rfl (Nat.le_of_ble_eq_true rfl) ?_
  refine gh_iconst C 2 dL_offer_16 (by decide) ?_
  refine gh_iret C hQ rfl dL_offer_17 ?_
  exact ⟨rfl, rfl⟩
theorem hw_add : gh_MH mL_add [(0, 10, 13, 13), (0, 10, 17, 15)] 4 := ⟨gh_in 505 (by decide +kernel) rfl, gh_in 60 (by decide +kernel) rfl, gh_in 504 (by decide +kernel) rfl, by decide +kernel, by decide +kernel, by decide +kernel⟩
theorem hk_add {l : Launch} {d : gh_D} {g : gh_H} {ax ao : Nat} {fs : List Value} {f0 : Nat → Int64} (x y : Int32) (h1 : g (1, 0) = some (ax, .inr (0, fs))) (ho : g (50, 0) = some (ao, .inl (3, 1, .inr (.inl f0)))) {n c s : Nat} (hn : n ≤ 10) {Po : Option Value → gh_H → Prop} (hM : gh_C l d mG_add (rr n c s) [.ref ax, .int x, .int y] g Po) (hP : ∀ v g1, Po v g1 → (∃ w, v = some (.int w)) ∧ g1 (50, 0) = g (50, 0)) : gh_CW l d mL_add [(0, 10, 13, 13), (0, 10, 17, 15)] (rr 12 c s) [.ref ax, .int x, .int y, .ref ao] g (fun v g1 => v = some (.int 0) ∧ ∃ (w : Int32) (g0 : gh_H), Po (some (.int w)) g0 ∧ g1 = gh_u g0 (50, 0) (ao, .inl (3, 1, .inr (.inl (vp_updL f0 (0 : Int32).toNatClampNeg w.toInt64))))) := by
  refine gh_ofW [some (.ref ax), some (.int x), some (.int y), some (.ref ao), none] (by decide) rfl (Nat.le_of_ble_eq_true rfl) (by simp [Value.category]) (fun z C hQ hZ hH => ?_)
  show gh_W l d z 0 [some (.ref ax), some (.int x), some (.int y), some (.ref ao), none] [] g c s
  refine gh_aload_n C dL_add_0 rfl ?_
  refine gh_iconst C 0 dL_add_1 (by decide) ?_
  refine gh_aload_n C dL_add_2 rfl ?_
  refine gh_iload_n C dL_add_3 rfl ?_
  refine gh_iload_n C dL_add_4 rfl ?_
  refine gh_callV C [.int x, .int y] hM lL_17 wG_add vG_add h1 rfl rfl rfl (Nat.le_of_ble_eq_true rfl) ⟨by show n + 1 ≤ 12; omega, by have h9 : mG_add.2.2.1 ≤ 20 := (by decide); show 8 + (mG_add.2.2.1 + 11) + 40 * n ≤ 40 * 12; omega⟩ (Nat.le_refl _) (Nat.le_refl _) dL_add_5 (fun v1 g1 k1 => ?_)
  obtain ⟨⟨w, rfl⟩, e50⟩ := hP v1 g1 k1
  refine gh_i2l C dL_add_8 ?_
  refine gh_last C (K := (50, 0)) (t := 3) (e50.trans ho) rfl (by unfold vp_in; decide) dL_add_9 ?_
  refine gh_goto C 21 dL_add_10 (by decide) ?_
  refine gh_iconst C 0 dL_add_21 (by decide) ?_
  refine gh_iret C hQ rfl dL_add_22 ?_
  exact ⟨rfl, w, g1, k1, rfl⟩
theorem hx_add {l : Launch} {d : gh_D} {g : gh_H} {ax ao : Nat} {fs : List Value} {f0 : Nat → Int64} (x y : Int32) (h1 : g (1, 0) = some (ax, .inr (0, fs))) (ho : g (50, 0) = some (ao, .inl (3, 1, .inr (.inl f0)))) (hM : gh_CT l d mG_add (rr 8 1 6) [.ref ax, .int x, .int y] g xIO) : gh_CW l d mL_add [(0, 10, 13, 13), (0, 10, 17, 15)] (rr 12 1 6) [.ref ax, .int x, .int y, .ref ao] g (fun v g1 => v = some (.int 1) ∧ g1 = g) := by
  refine gh_ofW [some (.ref ax), some (.int x), some (.int y), some (.ref ao), none] (by decide) rfl (Nat.le_of_ble_eq_true rfl) (by simp [Value.category]) (fun z C hQ hZ hH => ?_)
  show gh_W l d z 0 [some (.ref ax), some (.int x), some (.int y), some (.ref ao), none] [] g 1 6
  refine gh_aload_n C dL_add_0 rfl ?_
  refine gh_iconst C 0 dL_add_1 (by decide) ?_
  refine gh_aload_n C dL_add_2 rfl ?_
  refine gh_iload_n C dL_add_3 rfl ?_
  refine gh_iload_n C dL_add_4 rfl ?_
  refine gh_callVT C hZ hH [.int x, .int y] hM rfl (gh_in 506 (by decide +kernel) rfl) wG_add vG_add h1 rfl rfl rfl (Nat.le_of_ble_eq_true rfl) ⟨Nat.le_of_ble_eq_true rfl, Nat.le_of_ble_eq_true rfl⟩ (Nat.le_refl _) (Nat.le_refl _) dL_add_5 [] ⟨0, 10, 13, 13⟩ [⟨0, 10, 17, 15⟩] rfl (fun y hy => by cases hy) (by decide) (Or.inl ⟨rfl, rfl⟩) (fun q => ?_)
  refine gh_astore C [some (.ref ax), some (.int x), some (.int y), some (.ref ao), some (.ref q)] dL_add_13 rfl (Nat.le_of_ble_eq_true rfl) ?_
  refine gh_iconst C 1 dL_add_15 (by decide) ?_
  refine gh_iret C hQ rfl dL_add_16 ?_
  exact ⟨rfl, rfl⟩
theorem hy_add {l : Launch} {d : gh_D} {g : gh_H} {ax ao : Nat} {fs : List Value} {f0 : Nat → Int64} (x y : Int32) (h1 : g (1, 0) = some (ax, .inr (0, fs))) (ho : g (50, 0) = some (ao, .inl (3, 1, .inr (.inl f0)))) (hM : gh_CT l d mG_add (rr 8 1 6) [.ref ax, .int x, .int y] g xIL) : gh_CW l d mL_add [(0, 10, 13, 13), (0, 10, 17, 15)] (rr 12 1 6) [.ref ax, .int x, .int y, .ref ao] g (fun v g1 => v = some (.int 2) ∧ g1 = g) := by
  refine gh_ofW [some (.ref ax), some (.int x), some (.int y), some (.ref ao), none] (by decide) rfl (Nat.le_of_ble_eq_true rfl) (by simp [Value.category]) (fun z C hQ hZ hH => ?_)
  show gh_W l d z 0 [some (.ref ax), some (.int x), some (.int y), some (.ref ao), none] [] g 1 6
  refine gh_aload_n C dL_add_0 rfl ?_
  refine gh_iconst C 0 dL_add_1 (by decide) ?_
  refine gh_aload_n C dL_add_2 rfl ?_
  refine gh_iload_n C dL_add_3 rfl ?_
  refine gh_iload_n C dL_add_4 rfl ?_
  refine gh_callVT C hZ hH [.int x, .int y] hM rfl (gh_in 506 (by decide +kernel) rfl) wG_add vG_add h1 rfl rfl rfl (Nat.le_of_ble_eq_true rfl) ⟨Nat.le_of_ble_eq_true rfl, Nat.le_of_ble_eq_true rfl⟩ (Nat.le_refl _) (Nat.le_refl _) dL_add_5 [⟨0, 10, 13, 13⟩] ⟨0, 10, 17, 15⟩ [] rfl (fun y hy => by cases List.mem_singleton.mp hy; exact ⟨rfl, rfl⟩) (by decide) (Or.inr ⟨rfl, rfl⟩) (fun q => ?_)
  refine gh_astore C [some (.ref ax), some (.int x), some (.int y), some (.ref ao), some (.ref q)] dL_add_17 rfl (Nat.le_of_ble_eq_true rfl) ?_
  refine gh_iconst C 2 dL_add_19 (by decide) ?_
  refine gh_iret C hQ rfl dL_add_20 ?_
  exact ⟨rfl, rfl⟩
theorem hw_remove : gh_MH mL_remove [(0, 10, 13, 13), (0, 10, 17, 15)] 4 := ⟨gh_in 542 (by decide +kernel) rfl, gh_in 60 (by decide +kernel) rfl, gh_in 541 (by decide +kernel) rfl, by decide +kernel, by decide +kernel, by decide +kernel⟩
theorem hk_remove {l : Launch} {d : gh_D} {g : gh_H} {ax ao : Nat} {fs : List Value} {f0 : Nat → Int64} (x y : Int32) (h1 : g (1, 0) = some (ax, .inr (0, fs))) (ho : g (50, 0) = some (ao, .inl (3, 1, .inr (.inl f0)))) {n c s : Nat} (hn : n ≤ 10) {Po : Option Value → gh_H → Prop} (hM : gh_C l d mG_remove (rr n c s) [.ref ax, .int x, .int y] g Po) (hP : ∀ v g1, Po v g1 → (∃ w, v = some (.int w)) ∧ g1 (50, 0) = g (50, 0)) : gh_CW l d mL_remove [(0, 10, 13, 13), (0, 10, 17, 15)] (rr 12 c s) [.ref ax, .int x, .int y, .ref ao] g (fun v g1 => v = some (.int 0) ∧ ∃ (w : Int32) (g0 : gh_H), Po (some (.int w)) g0 ∧ g1 = gh_u g0 (50, 0) (ao, .inl (3, 1, .inr (.inl (vp_updL f0 (0 : Int32).toNatClampNeg w.toInt64))))) := by
  refine gh_ofW [some (.ref ax), some (.int x), some (.int y), some (.ref ao), none] (by decide) rfl (Nat.le_of_ble_eq_true rfl) (by simp [Value.category]) (fun z C hQ hZ hH => ?_)
  show gh_W l d z 0 [some (.ref ax), some (.int x), some (.int y), some (.ref ao), none] [] g c s
  refine gh_aload_n C dL_remove_0 rfl ?_
  refine gh_iconst C 0 dL_remove_1 (by decide) ?_
  refine gh_aload_n C dL_remove_2 rfl ?_
  refine gh_iload_n C dL_remove_3 rfl ?_
  refine gh_iload_n C dL_remove_4 rfl ?_
  refine gh_callV C [.int x, .int y] hM lL_21 wG_remove vG_remove h1 rfl rfl rfl (Nat.le_of_ble_eq_true rfl) ⟨by show n + 1 ≤ 12; omega, by have h9 : mG_remove.2.2.1 ≤ 20 := (by decide); show 8 + (mG_remove.2.2.1 + 11) + 40 * n ≤ 40 * 12; omega⟩ (Nat.le_refl _) (Nat.le_refl _) dL_remove_5 (fun v1 g1 k1 => ?_)
  obtain ⟨⟨w, rfl⟩, e50⟩ := hP v1 g1 k1
  refine gh_i2l C dL_remove_8 ?_
  refine gh_last C (K := (50, 0)) (t := 3) (e50.trans ho) rfl (by unfold vp_in; decide) dL_remove_9 ?_
  refine gh_goto C 21 dL_remove_10 (by decide) ?_
  refine gh_iconst C 0 dL_remove_21 (by decide) ?_
  refine gh_iret C hQ rfl dL_remove_22 ?_
  exact ⟨rfl, w, g1, k1, rfl⟩
theorem hx_remove {l : Launch} {d : gh_D} {g : gh_H} {ax ao : Nat} {fs : List Value} {f0 : Nat → Int64} (x y : Int32) (h1 : g (1, 0) = some (ax, .inr (0, fs))) (ho : g (50, 0) = some (ao, .inl (3, 1, .inr (.inl f0)))) (hM : gh_CT l d mG_remove (rr 8 1 6) [.ref ax, .int x, .int y] g xIO) : gh_CW l d mL_remove [(0, 10, 13, 13), (0, 10, 17, 15)] (rr 12 1 6) [.ref ax, .int x, .int y, .ref ao] g (fun v g1 => v = some (.int 1) ∧ g1 = g) := by
  refine gh_ofW [some (.ref ax), some (.int x), some (.int y), some (.ref ao), none] (by decide) rfl (Nat.le_of_ble_eq_true rfl) (by simp [Value.category]) (fun z C hQ hZ hH => ?_)
  show gh_W l d z 0 [some (.ref ax), some (.int x), some (.int y), some (.ref ao), none] [] g 1 6
  refine gh_aload_n C dL_remove_0 rfl ?_
  refine gh_iconst C 0 dL_remove_1 (by decide) ?_
  refine gh_aload_n C dL_remove_2 rfl ?_
  refine gh_iload_n C dL_remove_3 rfl ?_
  refine gh_iload_n C dL_remove_4 rfl ?_
  refine gh_callVT C hZ hH [.int x, .int y] hM rfl (gh_in 543 (by decide +kernel) rfl) wG_remove vG_remove h1 rfl rfl rfl (Nat.le_of_ble_eq_true rfl) ⟨Nat.le_of_ble_eq_true rfl, Nat.le_of_ble_eq_true rfl⟩ (Nat.le_refl _) (Nat.le_refl _) dL_remove_5 [] ⟨0, 10, 13, 13⟩ [⟨0, 10, 17, 15⟩] rfl (fun y hy => by cases hy) (by decide) (Or.inl ⟨rfl, rfl⟩) (fun q => ?_)
  refine gh_astore C [some (.ref ax), some (.int x), some (.int y), some (.ref ao), some (.ref q)] dL_remove_13 rfl (Nat.le_of_ble_eq_true rfl) ?_
  refine gh_iconst C 1 dL_remove_15 (by decide) ?_
  refine gh_iret C hQ rfl dL_remove_16 ?_
  exact ⟨rfl, rfl⟩
theorem hy_remove {l : Launch} {d : gh_D} {g : gh_H} {ax ao : Nat} {fs : List Value} {f0 : Nat → Int64} (x y : Int32) (h1 : g (1, 0) = some (ax, .inr (0, fs))) (ho : g (50, 0) = some (ao, .inl (3, 1, .inr (.inl f0)))) (hM : gh_CT l d mG_remove (rr 8 1 6) [.ref ax, .int x, .int y] g xIL) : gh_CW l d mL_remove [(0, 10, 13, 13), (0, 10, 17, 15)] (rr 12 1 6) [.ref ax, .int x, .int y, .ref ao] g (fun v g1 => v = some (.int 2) ∧ g1 = g) := by
  refine gh_ofW [some (.ref ax), some (.int x), some (.int y), some (.ref ao), none] (by decide) rfl (Nat.le_of_ble_eq_true rfl) (by simp [Value.category]) (fun z C hQ hZ hH => ?_)
  show gh_W l d z 0 [some (.ref ax), some (.int x), some (.int y), some (.ref ao), none] [] g 1 6
  refine gh_aload_n C dL_remove_0 rfl ?_
  refine gh_iconst C 0 dL_remove_1 (by decide) ?_
  refine gh_aload_n C dL_remove_2 rfl ?_
  refine gh_iload_n C dL_remove_3 rfl ?_
  refine gh_iload_n C dL_remove_4 rfl ?_
  refine gh_callVT C hZ hH [.int x, .int y] hM rfl (gh_in 543 (by decide +kernel) rfl) wG_remove vG_remove h1 rfl rfl rfl (Nat.le_of_ble_eq_true rfl) ⟨Nat.le_of_ble_eq_true rfl, Nat.le_of_ble_eq_true rfl⟩ (Nat.le_refl _) (Nat.le_refl _) dL_remove_5 [⟨0, 10, 13, 13⟩] ⟨0, 10, 17, 15⟩ [] rfl (fun y hy => by cases List.mem_singleton.mp hy; exact ⟨rfl, rfl⟩) (by decide) (Or.inr ⟨rfl, rfl⟩) (fun q => ?_)
  refine gh_astore C [some (.ref ax), some (.int x), some (.int y), some (.ref ao), some (.ref q)] dL_remove_17 rfl (Nat.le_of_ble_eq_true rfl) ?_
  refine gh_iconst C 2 dL_remove_19 (by decide) ?_
  refine gh_iret C hQ rfl dL_remove_20 ?_
  exact ⟨rfl, rfl⟩
theorem hw_update : gh_MH mL_update [(0, 9, 12, 13), (0, 9, 15, 15)] 3 := ⟨gh_in 549 (by decide +kernel) rfl, gh_in 60 (by decide +kernel) rfl, gh_in 548 (by decide +kernel) rfl, by decide +kernel, by decide +kernel, by decide +kernel⟩
theorem hk_update {l : Launch} {d : gh_D} {g : gh_H} {ax ao : Nat} {fs : List Value} {f0 : Nat → Int64} (x : Int32) (h1 : g (1, 0) = some (ax, .inr (0, fs))) (ho : g (50, 0) = some (ao, .inl (3, 1, .inr (.inl f0)))) {n c s : Nat} (hn : n ≤ 10) {Po : Option Value → gh_H → Prop} (hM : gh_C l d mG_update (rr n c s) [.ref ax, .int x] g Po) (hP : ∀ v g1, Po v g1 → (∃ w, v = some (.int w)) ∧ g1 (50, 0) = g (50, 0)) : gh_CW l d mL_update [(0, 9, 12, 13), (0, 9, 15, 15)] (rr 12 c s) [.ref ax, .int x, .ref ao] g (fun v g1 => v = some (.int 0) ∧ ∃ (w : Int32) (g0 : gh_H), Po (some (.int w)) g0 ∧ g1 = gh_u g0 (50, 0) (ao, .inl (3, 1, .inr (.inl (vp_updL f0 (0 : Int32).toNatClampNeg w.toInt64))))) := by
  refine gh_ofW [some (.ref ax), some (.int x), some (.ref ao), none] (by decide) rfl (Nat.le_of_ble_eq_true rfl) (by simp [Value.category]) (fun z C hQ hZ hH => ?_)
  show gh_W l d z 0 [some (.ref ax), some (.int x), some (.ref ao), none] [] g c s
  refine gh_aload_n C dL_update_0 rfl ?_
  refine gh_iconst C 0 dL_update_1 (by decide) ?_
  refine gh_aload_n C dL_update_2 rfl ?_
  refine gh_iload_n C dL_update_3 rfl ?_
  refine gh_callV C [.int x] hM lL_24 wG_update vG_update h1 rfl rfl rfl (Nat.le_of_ble_eq_true rfl) ⟨by show n + 1 ≤ 12; omega, by have h9 : mG_update.2.2.1 ≤ 20 := (by decide); show 8 + (mG_update.2.2.1 + 11) + 40 * n ≤ 40 * 12; omega⟩ (Nat.le_refl _) (Nat.le_refl _) dL_update_4 (fun v1 g1 k1 => ?_)
  obtain ⟨⟨w, rfl⟩, e50⟩ := hP v1 g1 k1
  refine gh_i2l C dL_update_7 ?_
  refine gh_last C (K := (50, 0)) (t := 3) (e50.trans ho) rfl (by unfold vp_in; decide) dL_update_8 ?_
  refine gh_goto C 18 dL_update_9 (by decide) ?_
  refine gh_iconst C 0 dL_update_18 (by decide) ?_
  refine gh_iret C hQ rfl dL_update_19 ?_
  exact ⟨rfl, w, g1, k1, rfl⟩
theorem hx_update {l : Launch} {d : gh_D} {g : gh_H} {ax ao : Nat} {fs : List Value} {f0 : Nat → Int64} (x : Int32) (h1 : g (1, 0) = some (ax, .inr (0, fs))) (ho : g (50, 0) = some (ao, .inl (3, 1, .inr (.inl f0)))) (hM : gh_CT l d mG_update (rr 8 1 6) [.ref ax, .int x] g xIO) : gh_CW l d mL_update [(0, 9, 12, 13), (0, 9, 15, 15)] (rr 12 1 6) [.ref ax, .int x, .ref ao] g (fun v g1 => v = some (.int 1) ∧ g1 = g) := by
  refine gh_ofW [some (.ref ax), some (.int x), some (.ref ao), none] (by decide) rfl (Nat.le_of_ble_eq_true rfl) (by simp [Value.category]) (fun z C hQ hZ hH => ?_)
  show gh_W l d z 0 [some (.ref ax), some (.int x), some (.ref ao), none] [] g 1 6
  refine gh_aload_n C dL_update_0 rfl ?_
  refine gh_iconst C 0 dL_update_1 (by decide) ?_
  refine gh_aload_n C dL_update_2 rfl ?_
  refine gh_iload_n C dL_update_3 rfl ?_
  refine gh_callVT C hZ hH [.int x] hM rfl (gh_in 550 (by decide +kernel) rfl) wG_update vG_update h1 rfl rfl rfl (Nat.le_of_ble_eq_true rfl) ⟨Nat.le_of_ble_eq_true rfl, Nat.le_of_ble_eq_true rfl⟩ (Nat.le_refl _) (Nat.le_refl _) dL_update_4 [] ⟨0, 9, 12, 13⟩ [⟨0, 9, 15, 15⟩] rfl (fun y hy => by cases hy) (by decide) (Or.inl ⟨rfl, rfl⟩) (fun q => ?_)
  refine gh_astore_n C [some (.ref ax), some (.int x), some (.ref ao), some (.ref q)] dL_update_12 rfl (Nat.le_of_ble_eq_true rfl) ?_
  refine gh_iconst C 1 dL_update_13 (by decide) ?_
  refine gh_iret C hQ rfl dL_update_14 ?_
  exact ⟨rfl, rfl⟩
theorem hy_update {l : Launch} {d : gh_D} {g : gh_H} {ax ao : Nat} {fs : List Value} {f0 : Nat → Int64} (x : Int32) (h1 : g (1, 0) = some (ax, .inr (0, fs))) (ho : g (50, 0) = some (ao, .inl (3, 1, .inr (.inl f0)))) (hM : gh_CT l d mG_update (rr 8 1 6) [.ref ax, .int x] g xIL) : gh_CW l d mL_update [(0, 9, 12, 13), (0, 9, 15, 15)] (rr 12 1 6) [.ref ax, .int x, .ref ao] g (fun v g1 => v = some (.int 2) ∧ g1 = g) := by
  refine gh_ofW [some (.ref ax), some (.int x), some (.ref ao), none] (by decide) rfl (Nat.le_of_ble_eq_true rfl) (by simp [Value.category]) (fun z C hQ hZ hH => ?_)
  show gh_W l d z 0 [some (.ref ax), some (.int x), some (.ref ao), none] [] g 1 6
  refine gh_aload_n C dL_update_0 rfl ?_
  refine gh_iconst C 0 dL_update_1 (by decide) ?_
  refine gh_aload_n C dL_update_2 rfl ?_
  refine gh_iload_n C dL_update_3 rfl ?_
  refine gh_callVT C hZ hH [.int x] hM rfl (gh_in 550 (by decide +kernel) rfl) wG_update vG_update h1 rfl rfl rfl (Nat.le_of_ble_eq_true rfl) ⟨Nat.le_of_ble_eq_true rfl, Nat.le_of_ble_eq_true rfl⟩ (Nat.le_refl _) (Nat.le_refl _) dL_update_4 [⟨0, 9, 12, 13⟩] ⟨0, 9, 15, 15⟩ [] rfl (fun y hy => by cases List.mem_singleton.mp hy; exact ⟨rfl, rfl⟩) (by decide) (Or.inr ⟨rfl, rfl⟩) (fun q => ?_)
  refine gh_astore_n C [some (.ref ax), some (.int x), some (.ref ao), some (.ref q)] dL_update_15 rfl (Nat.le_of_ble_eq_true rfl) ?_
  refine gh_iconst C 2 dL_update_16 (by decide) ?_
  refine gh_iret C hQ rfl dL_update_17 ?_
  exact ⟨rfl, rfl⟩
theorem hw_commit : gh_MH mL_commit [(0, 10, 13, 13), (0, 10, 17, 15)] 4 := ⟨gh_in 560 (by decide +kernel) rfl, gh_in 60 (by decide +kernel) rfl, gh_in 559 (by decide +kernel) rfl, by decide +kernel, by decide +kernel, by decide +kernel⟩
theorem hk_commit {l : Launch} {d : gh_D} {g : gh_H} {ax ao : Nat} {fs : List Value} {f0 : Nat → Int64} (x y : Int32) (h1 : g (1, 0) = some (ax, .inr (0, fs))) (ho : g (50, 0) = some (ao, .inl (3, 1, .inr (.inl f0)))) {n c s : Nat} (hn : n ≤ 10) {Po : Option Value → gh_H → Prop} (hM : gh_C l d mG_commit (rr n c s) [.ref ax, .int x, .int y] g Po) (hP : ∀ v g1, Po v g1 → (∃ w, v = some (.int w)) ∧ g1 (50, 0) = g (50, 0)) : gh_CW l d mL_commit [(0, 10, 13, 13), (0, 10, 17, 15)] (rr 12 c s) [.ref ax, .int x, .int y, .ref ao] g (fun v g1 => v = some (.int 0) ∧ ∃ (w : Int32) (g0 : gh_H), Po (some (.int w)) g0 ∧ g1 = gh_u g0 (50, 0) (ao, .inl (3, 1, .inr (.inl (vp_updL f0 (0 : Int32).toNatClampNeg w.toInt64))))) := by
  refine gh_ofW [some (.ref ax), some (.int x), some (.int y), some (.ref ao), none] (by decide) rfl (Nat.le_of_ble_eq_true rfl) (by simp [Value.category]) (fun z C hQ hZ hH => ?_)
  show gh_W l d z 0 [some (.ref ax), some (.int x), some (.int y), some (.ref ao), none] [] g c s
  refine gh_aload_n C dL_commit_0 rfl ?_
  refine gh_iconst C 0 dL_commit_1 (by decide) ?_
  refine gh_aload_n C dL_commit_2 rfl ?_
  refine gh_iload_n C dL_commit_3 rfl ?_
  refine gh_iload_n C dL_commit_4 rfl ?_
  refine gh_callV C [.int x, .int y] hM lL_27 wG_commit vG_commit h1 rfl rfl rfl (Nat.le_of_ble_eq_true rfl) ⟨by show n + 1 ≤ 12; omega, by have h9 : mG_commit.2.2.1 ≤ 20 := (by decide); show 8 + (mG_commit.2.2.1 + 11) + 40 * n ≤ 40 * 12; omega⟩ (Nat.le_refl _) (Nat.le_refl _) dL_commit_5 (fun v1 g1 k1 => ?_)
  obtain ⟨⟨w, rfl⟩, e50⟩ := hP v1 g1 k1
  refine gh_i2l C dL_commit_8 ?_
  refine gh_last C (K := (50, 0)) (t := 3) (e50.trans ho) rfl (by unfold vp_in; decide) dL_commit_9 ?_
  refine gh_goto C 21 dL_commit_10 (by decide) ?_
  refine gh_iconst C 0 dL_commit_21 (by decide) ?_
  refine gh_iret C hQ rfl dL_commit_22 ?_
  exact ⟨rfl, w, g1, k1, rfl⟩
theorem hx_commit {l : Launch} {d : gh_D} {g : gh_H} {ax ao : Nat} {fs : List Value} {f0 : Nat → Int64} (x y : Int32) (h1 : g (1, 0) = some (ax, .inr (0, fs))) (ho : g (50, 0) = some (ao, .inl (3, 1, .inr (.inl f0)))) (hM : gh_CT l d mG_commit (rr 8 1 6) [.ref ax, .int x, .int y] g xIO) : gh_CW l d mL_commit [(0, 10, 13, 13), (0, 10, 17, 15)] (rr 12 1 6) [.ref ax, .int x, .int y, .ref ao] g (fun v g1 => v = some (.int 1) ∧ g1 = g) := by
  refine gh_ofW [some (.ref ax), some (.int x), some (.int y), some (.ref ao), none] (by decide) rfl (Nat.le_of_ble_eq_true rfl) (by simp [Value.category]) (fun z C hQ hZ hH => ?_)
  show gh_W l d z 0 [some (.ref ax), some (.int x), some (.int y), some (.ref ao), none] [] g 1 6
  refine gh_aload_n C dL_commit_0 rfl ?_
  refine gh_iconst C 0 dL_commit_1 (by decide) ?_
  refine gh_aload_n C dL_commit_2 rfl ?_
  refine gh_iload_n C dL_commit_3 rfl ?_
  refine gh_iload_n C dL_commit_4 rfl ?_
  refine gh_callVT C hZ hH [.int x, .int y] hM rfl (gh_in 561 (by decide +kernel) rfl) wG_commit vG_commit h1 rfl rfl rfl (Nat.le_of_ble_eq_true rfl) ⟨Nat.le_of_ble_eq_true rfl, Nat.le_of_ble_eq_true rfl⟩ (Nat.le_refl _) (Nat.le_refl _) dL_commit_5 [] ⟨0, 10, 13, 13⟩ [⟨0, 10, 17, 15⟩] rfl (fun y hy => by cases hy) (by decide) (Or.inl ⟨rfl, rfl⟩) (fun q => ?_)
  refine gh_astore C [some (.ref ax), some (.int x), some (.int y), some (.ref ao), some (.ref q)] dL_commit_13 rfl (Nat.le_of_ble_eq_true rfl) ?_
  refine gh_iconst C 1 dL_commit_15 (by decide) ?_
  refine gh_iret C hQ rfl dL_commit_16 ?_
  exact ⟨rfl, rfl⟩
theorem hy_commit {l : Launch} {d : gh_D} {g : gh_H} {ax ao : Nat} {fs : List Value} {f0 : Nat → Int64} (x y : Int32) (h1 : g (1, 0) = some (ax, .inr (0, fs))) (ho : g (50, 0) = some (ao, .inl (3, 1, .inr (.inl f0)))) (hM : gh_CT l d mG_commit (rr 8 1 6) [.ref ax, .int x, .int y] g xIL) : gh_CW l d mL_commit [(0, 10, 13, 13), (0, 10, 17, 15)] (rr 12 1 6) [.ref ax, .int x, .int y, .ref ao] g (fun v g1 => v = some (.int 2) ∧ g1 = g) := by
  refine gh_ofW [some (.ref ax), some (.int x), some (.int y), some (.ref ao), none] (by decide) rfl (Nat.le_of_ble_eq_true rfl) (by simp [Value.category]) (fun z C hQ hZ hH => ?_)
  show gh_W l d z 0 [some (.ref ax), some (.int x), some (.int y), some (.ref ao), none] [] g 1 6
  refine gh_aload_n C dL_commit_0 rfl ?_
  refine gh_iconst C 0 dL_commit_1 (by decide) ?_
  refine gh_aload_n C dL_commit_2 rfl ?_
  refine gh_iload_n C dL_commit_3 rfl ?_
  refine gh_iload_n C dL_commit_4 rfl ?_
  refine gh_callVT C hZ hH [.int x, .int y] hM rfl (gh_in 561 (by decide +kernel) rfl) wG_commit vG_commit h1 rfl rfl rfl (Nat.le_of_ble_eq_true rfl) ⟨Nat.le_of_ble_eq_true rfl, Nat.le_of_ble_eq_true rfl⟩ (Nat.le_refl _) (Nat.le_refl _) dL_commit_5 [⟨0, 10, 13, 13⟩] ⟨0, 10, 17, 15⟩ [] rfl (fun y hy => by cases List.mem_singleton.mp hy; exact ⟨rfl, rfl⟩) (by decide) (Or.inr ⟨rfl, rfl⟩) (fun q => ?_)
  refine gh_astore C [some (.ref ax), some (.int x), some (.int y), some (.ref ao), some (.ref q)] dL_commit_17 rfl (Nat.le_of_ble_eq_true rfl) ?_
  refine gh_iconst C 2 dL_commit_19 (by decide) ?_
  refine gh_iret C hQ rfl dL_commit_20 ?_
  exact ⟨rfl, rfl⟩
theorem hw_come : gh_MH mL_come [(0, 9, 12, 13), (0, 9, 15, 15)] 3 := ⟨gh_in 716 (by decide +kernel) rfl, gh_in 60 (by decide +kernel) rfl, gh_in 715 (by decide +kernel) rfl, by decide +kernel, by decide +kernel, by decide +kernel⟩
theorem hk_come {l : Launch} {d : gh_D} {g : gh_H} {ax ao : Nat} {fs : List Value} {f0 : Nat → Int64} (x : Int32) (h1 : g (1, 0) = some (ax, .inr (0, fs))) (ho : g (50, 0) = some (ao, .inl (3, 1, .inr (.inl f0)))) {n c s : Nat} (hn : n ≤ 10) {Po : Option Value → gh_H → Prop} (hM : gh_C l d mG_come (rr n c s) [.ref ax, .int x] g Po) (hP : ∀ v g1, Po v g1 → (∃ w, v = some (.int w)) ∧ g1 (50, 0) = g (50, 0)) : gh_CW l d mL_come [(0, 9, 12, 13), (0, 9, 15, 15)] (rr 12 c s) [.ref ax, .int x, .ref ao] g (fun v g1 => v = some (.int 0) ∧ ∃ (w : Int32) (g0 : gh_H), Po (some (.int w)) g0 ∧ g1 = gh_u g0 (50, 0) (ao, .inl (3, 1, .inr (.inl (vp_updL f0 (0 : Int32).toNatClampNeg w.toInt64))))) := by
  refine gh_ofW [some (.ref ax), some (.int x), some (.ref ao), none] (by decide) rfl (Nat.le_of_ble_eq_true rfl) (by simp [Value.category]) (fun z C hQ hZ hH => ?_)
  show gh_W l d z 0 [some (.ref ax), some (.int x), some (.ref ao), none] [] g c s
  refine gh_aload_n C dL_come_0 rfl ?_
  refine gh_iconst C 0 dL_come_1 (by decide) ?_
  refine gh_aload_n C dL_come_2 rfl ?_
  refine gh_iload_n C dL_come_3 rfl ?_
  refine gh_callV C [.int x] hM lL_31 wG_come vG_come h1 rfl rfl rfl (Nat.le_of_ble_eq_true rfl) ⟨by show n + 1 ≤ 12; omega, by have h9 : mG_come.2.2.1 ≤ 20 := (by decide); show 8 + (mG_come.2.2.1 + 11) + 40 * n ≤ 40 * 12; omega⟩ (Nat.le_refl _) (Nat.le_refl _) dL_come_4 (fun v1 g1 k1 => ?_)
  obtain ⟨⟨w, rfl⟩, e50⟩ := hP v1 g1 k1
  refine gh_i2l C dL_come_7 ?_
  refine gh_last C (K := (50, 0)) (t := 3) (e50.trans ho) rfl (by unfold vp_in; decide) dL_come_8 ?_
  refine gh_goto C 18 dL_come_9 (by decide) ?_
  refine gh_iconst C 0 dL_come_18 (by decide) ?_
  refine gh_iret C hQ rfl dL_come_19 ?_
  exact ⟨rfl, w, g1, k1, rfl⟩
theorem hx_come {l : Launch} {d : gh_D} {g : gh_H} {ax ao : Nat} {fs : List Value} {f0 : Nat → Int64} (x : Int32) (h1 : g (1, 0) = some (ax, .inr (0, fs))) (ho : g (50, 0) = some (ao, .inl (3, 1, .inr (.inl f0)))) (hM : gh_CT l d mG_come (rr 8 1 6) [.ref ax, .int x] g xIO) : gh_CW l d mL_come [(0, 9, 12, 13), (0, 9, 15, 15)] (rr 12 1 6) [.ref ax, .int x, .ref ao] g (fun v g1 => v = some (.int 1) ∧ g1 = g) := by
  refine gh_ofW [some (.ref ax), some (.int x), some (.ref ao), none] (by decide) rfl (Nat.le_of_ble_eq_true rfl) (by simp [Value.category]) (fun z C hQ hZ hH => ?_)
  show gh_W l d z 0 [some (.ref ax), some (.int x), some (.ref ao), none] [] g 1 6
  refine gh_aload_n C dL_come_0 rfl ?_
  refine gh_iconst C 0 dL_come_1 (by decide) ?_
  refine gh_aload_n C dL_come_2 rfl ?_
  refine gh_iload_n C dL_come_3 rfl ?_
  refine gh_callVT C hZ hH [.int x] hM rfl (gh_in 717 (by decide +kernel) rfl) wG_come vG_come h1 rfl rfl rfl (Nat.le_of_ble_eq_true rfl) ⟨Nat.le_of_ble_eq_true rfl, Nat.le_of_ble_eq_true rfl⟩ (Nat.le_refl _) (Nat.le_refl _) dL_come_4 [] ⟨0, 9, 12, 13⟩ [⟨0, 9, 15, 15⟩] rfl (fun y hy => by cases hy) (by decide) (Or.inl ⟨rfl, rfl⟩) (fun q => ?_)
  refine gh_astore_n C [some (.ref ax), some (.int x), some (.ref ao), some (.ref q)] dL_come_12 rfl (Nat.le_of_ble_eq_true rfl) ?_
  refine gh_iconst C 1 dL_come_13 (by decide) ?_
  refine gh_iret C hQ rfl dL_come_14 ?_
  exact ⟨rfl, rfl⟩
theorem hy_come {l : Launch} {d : gh_D} {g : gh_H} {ax ao : Nat} {fs : List Value} {f0 : Nat → Int64} (x : Int32) (h1 : g (1, 0) = some (ax, .inr (0, fs))) (ho : g (50, 0) = some (ao, .inl (3, 1, .inr (.inl f0)))) (hM : gh_CT l d mG_come (rr 8 1 6) [.ref ax, .int x] g xIL) : gh_CW l d mL_come [(0, 9, 12, 13), (0, 9, 15, 15)] (rr 12 1 6) [.ref ax, .int x, .ref ao] g (fun v g1 => v = some (.int 2) ∧ g1 = g) := by
  refine gh_ofW [some (.ref ax), some (.int x), some (.ref ao), none] (by decide) rfl (Nat.le_of_ble_eq_true rfl) (by simp [Value.category]) (fun z C hQ hZ hH => ?_)
  show gh_W l d z 0 [some (.ref ax), some (.int x), some (.ref ao), none] [] g 1 6
  refine gh_aload_n C dL_come_0 rfl ?_
  refine gh_iconst C 0 dL_come_1 (by decide) ?_
  refine gh_aload_n C dL_come_2 rfl ?_
  refine gh_iload_n C dL_come_3 rfl ?_
  refine gh_callVT C hZ hH [.int x] hM rfl (gh_in 717 (by decide +kernel) rfl) wG_come vG_come h1 rfl rfl rfl (Nat.le_of_ble_eq_true rfl) ⟨Nat.le_of_ble_eq_true rfl, Nat.le_of_ble_eq_true rfl⟩ (Nat.le_refl _) (Nat.le_refl _) dL_come_4 [⟨0, 9, 12, 13⟩] ⟨0, 9, 15, 15⟩ [] rfl (fun y hy => by cases List.mem_singleton.mp hy; exact ⟨rfl, rfl⟩) (by decide) (Or.inr ⟨rfl, rfl⟩) (fun q => ?_)
  refine gh_astore_n C [some (.ref ax), some (.int x), some (.ref ao), some (.ref q)] dL_come_15 rfl (Nat.le_of_ble_eq_true rfl) ?_
  refine gh_iconst C 2 dL_come_16 (by decide) ?_
  refine gh_iret C hQ rfl dL_come_17 ?_
  exact ⟨rfl, rfl⟩
theorem hw_compromise : gh_MH mL_compromise [(0, 9, 12, 13)] 3 := ⟨gh_in 743 (by decide +kernel) rfl, gh_in 60 (by decide +kernel) rfl, gh_in 742 (by decide +kernel) rfl, by decide +kernel, by decide +kernel, by decide +kernel⟩
theorem hk_compromise {l : Launch} {d : gh_D} {g : gh_H} {ax ao : Nat} {fs : List Value} {f0 : Nat → Int64} (x : Int32) (h1 : g (1, 0) = some (ax, .inr (0, fs))) (ho : g (50, 0) = some (ao, .inl (3, 1, .inr (.inl f0)))) {n c s : Nat} (hn : n ≤ 10) {Po : Option Value → gh_H → Prop} (hM : gh_C l d mG_compromise (rr n c s) [.ref ax, .int x] g Po) (hP : ∀ v g1, Po v g1 → (∃ w, v = some (.int w)) ∧ g1 (50, 0) = g (50, 0)) : gh_CW l d mL_compromise [(0, 9, 12, 13)] (rr 12 c s) [.ref ax, .int x, .ref ao] g (fun v g1 => v = some (.int 0) ∧ ∃ (w : Int32) (g0 : gh_H), Po (some (.int w)) g0 ∧ g1 = gh_u g0 (50, 0) (ao, .inl (3, 1, .inr (.inl (vp_updL f0 (0 : Int32).toNatClampNeg w.toInt64))))) := by
  refine gh_ofW [some (.ref ax), some (.int x), some (.ref ao), none] (by decide) rfl (Nat.le_of_ble_eq_true rfl) (by simp [Value.category]) (fun z C hQ hZ hH => ?_)
  show gh_W l d z 0 [some (.ref ax), some (.int x), some (.ref ao), none] [] g c s
  refine gh_aload_n C dL_compromise_0 rfl ?_
  refine gh_iconst C 0 dL_compromise_1 (by decide) ?_
  refine gh_aload_n C dL_compromise_2 rfl ?_
  refine gh_iload_n C dL_compromise_3 rfl ?_
  refine gh_callV C [.int x] hM lL_34 wG_compromise vG_compromise h1 rfl rfl rfl (Nat.le_of_ble_eq_true rfl) ⟨by show n + 1 ≤ 12; omega, by have h9 : mG_compromise.2.2.1 ≤ 20 := (by decide); show 8 + (mG_compromise.2.2.1 + 11) + 40 * n ≤ 40 * 12; omega⟩ (Nat.le_refl _) (Nat.le_refl _) dL_compromise_4 (fun v1 g1 k1 => ?_)
  obtain ⟨⟨w, rfl⟩, e50⟩ := hP v1 g1 k1
  refine gh_i2l C dL_compromise_7 ?_
  refine gh_last C (K := (50, 0)) (t := 3) (e50.trans ho) rfl (by unfold vp_in; decide) dL_compromise_8 ?_
  refine gh_goto C 15 dL_compromise_9 (by decide) ?_
  refine gh_iconst C 0 dL_compromise_15 (by decide) ?_
  refine gh_iret C hQ rfl dL_compromise_16 ?_
  exact ⟨rfl, w, g1, k1, rfl⟩
theorem hx_compromise {l : Launch} {d : gh_D} {g : gh_H} {ax ao : Nat} {fs : List Value} {f0 : Nat → Int64} (x : Int32) (h1 : g (1, 0) = some (ax, .inr (0, fs))) (ho : g (50, 0) = some (ao, .inl (3, 1, .inr (.inl f0)))) (hM : gh_CT l d mG_compromise (rr 8 1 6) [.ref ax, .int x] g xIO) : gh_CW l d mL_compromise [(0, 9, 12, 13)] (rr 12 1 6) [.ref ax, .int x, .ref ao] g (fun v g1 => v = some (.int 1) ∧ g1 = g) := by
  refine gh_ofW [some (.ref ax), some (.int x), some (.ref ao), none] (by decide) rfl (Nat.le_of_ble_eq_true rfl) (by simp [Value.category]) (fun z C hQ hZ hH => ?_)
  show gh_W l d z 0 [some (.ref ax), some (.int x), some (.ref ao), none] [] g 1 6
  refine gh_aload_n C dL_compromise_0 rfl ?_
  refine gh_iconst C 0 dL_compromise_1 (by decide) ?_
  refine gh_aload_n C dL_compromise_2 rfl ?_
  refine gh_iload_n C dL_compromise_3 rfl ?_
  refine gh_callVT C hZ hH [.int x] hM rfl (gh_in 744 (by decide +kernel) rfl) wG_compromise vG_compromise h1 rfl rfl rfl (Nat.le_of_ble_eq_true rfl) ⟨Nat.le_of_ble_eq_true rfl, Nat.le_of_ble_eq_true rfl⟩ (Nat.le_refl _) (Nat.le_refl _) dL_compromise_4 [] ⟨0, 9, 12, 13⟩ [] rfl (fun y hy => by cases hy) (by decide) (Or.inl ⟨rfl, rfl⟩) (fun q => ?_)
  refine gh_astore_n C [some (.ref ax), some (.int x), some (.ref ao), some (.ref q)] dL_compromise_12 rfl (Nat.le_of_ble_eq_true rfl) ?_
  refine gh_iconst C 1 dL_compromise_13 (by decide) ?_
  refine gh_iret C hQ rfl dL_compromise_14 ?_
  exact ⟨rfl, rfl⟩
