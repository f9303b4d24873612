/-! THE LAW'S LOOP -/
section LWL
variable {l : Launch} {d : gh_D} {z : gh_Z} {nm : String} {b L ax ay ao : Nat} {xs : Nat → Int32}
set_option maxRecDepth 100000 in
set_option maxHeartbeats 4000000 in
theorem lw_one (C : gh_X d z (lwM nm) room_1) (hZ : gh_ZC d z) (hX : gh_SX d z b L xs) (hL : L ≤ 2048) {i rem : Nat} (hi : i + 4 ≤ L) (htr : l.flags = pinnedFlags ++ [noTraceFlag]) {g : gh_H} {S : SC} {cb sb : Nat} {k5 k6 : Option Value} (h : LI ax ay ao g S) (hB : LB S (rem + 1) cb sb) (next : ∀ (g2 : gh_H) (S2 : SC) (c2 s2 : Nat) (q5 q6 : Option Value), LI ax ay ao g2 S2 → LB S2 rem c2 s2 → gh_W l d z 850 [some (.ref b), some (.ref ax), some (.ref ay), some (.ref ao), some (.int (nI i)), q5, q6] [] g2 c2 s2) (dflt : gh_W l d z 850 [some (.ref b), some (.ref ax), some (.ref ay), some (.ref ao), some (.int (nI i)), k5, k6] [] g cb sb) (v : Int32) : gh_W l d z 39 [some (.ref b), some (.ref ax), some (.ref ay), some (.ref ao), some (.int (nI i)), k5, k6] [.int (v &&& 31)] g cb sb := by
  obtain ⟨t, ht, e⟩ := and_31 v
  rw [e]
  by_cases h17 : 17 ≤ t
  · refine gh_tabOut C 850 dW_39 (tabO (n := 17) (by decide) (fun j hj hx => ?_)) (by decide) dflt
    have h9 : t = j := (nI_eq (by omega) (by omega)).mp hx
    omega
  have hs : t = 0 ∨ t = 1 ∨ t = 2 ∨ t = 3 ∨ t = 4 ∨ t = 5 ∨ t = 6 ∨ t = 7 ∨ t = 8 ∨ t = 9 ∨ t = 10 ∨ t = 11 ∨ t = 12 ∨ t = 13 ∨ t = 14 ∨ t = 15 ∨ t = 16 := by omega
  rcases hs with rfl | rfl | rfl | rfl | rfl | rfl | rfl | rfl | rfl | rfl | rfl | rfl | rfl | rfl | rfl | rfl | rfl
  · exact gh_tabIn C 120 dW_39 (by decide) (by decide) rfl (by decide) (lw_c0 C hZ hX hL hi htr h hB next)
  · exact gh_tabIn C 176 dW_39 (by decide) (by decide) rfl (by decide) (lw_c1 C hZ hX hL hi htr h hB next)
  · exact gh_tabIn C 244 dW_39 (by decide) (by decide) rfl (by decide) (lw_c2 C hZ hX hL hi htr h hB next)
  · exact gh_tabIn C 312 dW_39 (by decide) (by decide) rfl (by decide) (lw_c3 C hZ hX hL hi htr h hB next)
  · refine gh_tabIn C 368 dW_39 (by decide) (by decide) rfl (by decide) ?_
    by_cases hx2 : xs (nI i + nI 2).toNatClampNeg = 0
    · exact lw_c4z C hZ hX hL hi htr h hB next hx2
    · exact lw_c4n C hZ hX hL hi htr h hB next hx2
  · exact gh_tabIn C 452 dW_39 (by decide) (by decide) rfl (by decide) (lw_c5 C hZ hX hL hi htr h hB next)
  · exact gh_tabIn C 508 dW_39 (by decide) (by decide) rfl (by decide) (lw_c6 C hZ hX hL hi htr h hB next)
  · exact gh_tabIn C 564 dW_39 (by decide) (by decide) rfl (by decide) (lw_c7 C hZ hX hL hi h hB next)
  · exact gh_tabIn C 601 dW_39 (by decide) (by decide) rfl (by decide) (lw_c8 C hZ hX hL hi h hB next)
  · exact gh_tabIn C 638 dW_39 (by decide) (by decide) rfl (by decide) (lw_c9 C hZ hX hL hi h hB next)
  · exact gh_tabIn C 663 dW_39 (by decide) (by decide) rfl (by decide) (lw_c10 C hZ hX hL hi h hB next)
  · exact gh_tabIn C 712 dW_39 (by decide) (by decide) rfl (by decide) (lw_c11 C hZ hX hL hi h hB next)
  · exact gh_tabIn C 749 dW_39 (by decide) (by decide) rfl (by decide) (lw_c12 C hZ hX hL hi h hB next)
  · exact gh_tabIn C 762 dW_39 (by decide) (by decide) rfl (by decide) (lw_c13 C hZ hX hL hi h hB next)
  · exact gh_tabIn C 775 dW_39 (by decide) (by decide) rfl (by decide) (lw_c14 C hZ hX hL hi h hB next)
  · exact gh_tabIn C 800 dW_39 (by decide) (by decide) rfl (by decide) (lw_c15 C hZ hX hL hi h hB next)
  · exact gh_tabIn C 837 dW_39 (by decide) (by decide) rfl (by decide) (lw_c16 C hZ hX hL hi h hB next)
theorem in_0 {L i : Nat} (h : i < L) (hL : L ≤ 2048) : vp_in (nI i) L := by
  unfold vp_in
  rw [nI_clamp (by omega)]
  rintro (q | q)
  · exact nI_pos (by omega) q
  · omega
theorem LB_less {S : SC} {rem cb sb : Nat} (h : LB S (rem + 1) cb sb) : LB S rem cb sb := ⟨by have := h.1; omega, by have := h.2; omega⟩
theorem lw_loop (C : gh_X d z (lwM nm) room_1) (hZ : gh_ZC d z) (hX : gh_SX d z b L xs) (hL : L ≤ 2048) (htr : l.flags = pinnedFlags ++ [noTraceFlag]) (hend : ∀ (g : gh_H) (cb sb : Nat) (ls : List (Option Value)), gh_W l d z 857 ls [.int 1] g cb sb) (rem : Nat) : ∀ (i : Nat) (g : gh_H) (S : SC) (cb sb : Nat) (k5 k6 : Option Value), LI ax ay ao g S → LB S rem cb sb → i ≤ 2100 → L ≤ i + 4 * rem + 3 → gh_W l d z 23 [some (.ref b), some (.ref ax), some (.ref ay), some (.ref ao), some (.int (nI i)), k5, k6] [] g cb sb := by
  induction rem with
  | zero =>
    intro i g S cb sb k5 k6 h hB hi hr
    refine gh_iload C dW_23 rfl ?_
    refine gh_aload_n C dW_25 rfl ?_
    refine gh_slen C hX dW_26 ?_
    refine gh_iconst C 4 dW_27 (by decide) ?_
    refine gh_isub C dW_28 ?_
    refine gh_icmp_gt C 856 dW_29 (by decide) (fun _ => ?_) (fun h9 => absurd ((le_4 hL hi).mpr (by omega)) h9)
    exact gh_iconst C 1 dW_856 (by decide) (hend _ _ _ _)
  | succ rem ih =>
    intro i g S cb sb k5 k6 h hB hi hr
    refine gh_iload C dW_23 rfl ?_
    refine gh_aload_n C dW_25 rfl ?_
    refine gh_slen C hX dW_26 ?_
    refine gh_iconst C 4 dW_27 (by decide) ?_
    refine gh_isub C dW_28 ?_
    refine gh_icmp_gt C 856 dW_29 (by decide) (fun _ => ?_) (fun h9 => ?_)
    · exact gh_iconst C 1 dW_856 (by decide) (hend _ _ _ _)
    have hi4 : i + 4 ≤ L := by
      rcases Nat.lt_or_ge L (i + 4) with q | q
      · exact absurd ((le_4 hL hi).mpr q) h9
      · exact q
    have next : ∀ (g2 : gh_H) (S2 : SC) (c2 s2 : Nat) (q5 q6 : Option Value), LI ax ay ao g2 S2 → LB S2 rem c2 s2 → gh_W l d z 850 [some (.ref b), some (.ref ax), some (.ref ay), some (.ref ao), some (.int (nI i)), q5, q6] [] g2 c2 s2 := by
      intro g2 S2 c2 s2 q5 q6 h2 hB2
      refine gh_iinc C (nI (i + 4)) [some (.ref b), some (.ref ax), some (.ref ay), some (.ref ao), some (.int (nI (i + 4))), q5, q6] dW_850 rfl (nI_add i 4) rfl ?_
      refine gh_goto C 23 dW_853 (by decide) ?_
      exact ih (i + 4) g2 S2 c2 s2 q5 q6 h2 hB2 (by omega) (by omega)
    refine gh_aload_n C dW_32 rfl ?_
    refine gh_iload C dW_33 rfl ?_
    refine gh_sld C hX (in_0 (by omega) hL) dW_35 ?_
    refine gh_bipush C 31 dW_36 (by decide) ?_
    refine gh_iand C dW_38 ?_
    exact lw_one C hZ hX hL hi4 htr h hB next (next g S cb sb k5 k6 h (LB_less hB)) _
end LWL
