/-! more pieces -/
theorem tree_new {S3 : SC} {T6 R : SR} {e a D N0 : Nat} (hPH : PH S3 T6 e a D N0) (hPI : PI S3 T6 e a D N0 R) (hi : ∀ v w, v < 31 → w < 31 → rK T6 e v = rK T6 e w → rK T6 e v ≠ -1 → v = w) : (∀ v, v < 31 → rK R e v = -1 ∨ (rK R e v = rK T6 e v ∧ rK T6 e v ≠ -1) ∨ ∃ k, N0 ≤ k ∧ k + 1 < R.1 1 ∧ rK R e v = nI k) ∧ ∀ v w, v < 31 → w < 31 → rK R e v = rK R e w → rK R e v ≠ -1 → v = w := by
  obtain ⟨⟨ha, haD, he⟩, -, hTI, -, -, -, -, -, -, -, -, hKB, -, -, n26, -⟩ := hPH
  have hD4 := hTI.1
  rcases hPI with ⟨-, X, Y, p, hPA, hrow, -, -, hY⟩ | ⟨-, -, hrow⟩
  · obtain ⟨⟨-, b1, b2⟩, -, -, ⟨r1, ⟨r2, r2b⟩, r3, r4, r5⟩, -⟩ := hPA
    have cas : ∀ v, v < 31 → (rK R e v = -1) ∨ ((∀ i, i ≤ D → v ≠ pn a i) ∧ rK R e v = rK T6 e v ∧ rK T6 e v ≠ -1) ∨ ∃ i k, i ≤ D ∧ v = pn a i ∧ N0 ≤ k ∧ k < Y.1 1 ∧ rK R e v = nI k := fun v hv => by
      rw [(hrow v).1]
      by_cases q : ∀ i, i ≤ D → v ≠ pn a i
      · have h1 := (r1 v hv q).1
        by_cases w : rK T6 e v = -1
        · exact Or.inl (by rw [h1, w])
        · exact Or.inr (Or.inl ⟨q, h1, w⟩)
      · have : ∃ i, i ≤ D ∧ v = pn a i := by
          by_cases w : ∃ i, i ≤ D ∧ v = pn a i
          · exact w
          · exact absurd (fun i hi hv9 => w ⟨i, hi, hv9⟩) q
        obtain ⟨i, i1, i2⟩ := this
        by_cases z : i = 0
        · subst z
          rw [pn_0] at i2
          exact Or.inr (Or.inr ⟨0, N0, i1, by rw [pn_0]; exact i2, Nat.le_refl _, by omega, by rw [i2]; exact r2⟩)
        · rcases (r3 i (by omega) i1).2 with ⟨w, -, -⟩ | ⟨k, w1, w2, w3, -, -⟩
          · exact Or.inl (by rw [i2]; exact w)
          · exact Or.inr (Or.inr ⟨i, k, i1, i2, by omega, w3, by rw [i2]; exact w1⟩)
    refine ⟨fun v hv => ?_, fun v w hv hw hvw hn => ?_⟩
    · rcases cas v hv with c1 | ⟨-, c2, c3⟩ | ⟨i, k, -, -, c3, c4, c5⟩
      · exact Or.inl c1
      · exact Or.inr (Or.inl ⟨c2, c3⟩)
      · exact Or.inr (Or.inr ⟨k, c3, by omega, c5⟩)
    · have hn2 : rK R e w ≠ -1 := by rw [← hvw]; exact hn
      rcases cas v hv with c1 | ⟨c1, c2, c3⟩ | ⟨i, k, i1, i2, c3, c4, c5⟩
      · exact absurd c1 hn
      · rcases cas w hw with d1 | ⟨d1, d2, d3⟩ | ⟨i', k', i1', i2', d3, d4, d5⟩
        · exact absurd d1 hn2
        · exact hi v w hv hw (by rw [← c2, ← d2]; exact hvw) c3
        · exfalso
          obtain ⟨q, q1, q2⟩ := (hKB v hv).resolve_left c3
          rw [c2, q2, d5] at hvw
          have := (nI_eq (by omega) (by omega)).mp hvw
          omega
      · rcases cas w hw with d1 | ⟨d1, d2, d3⟩ | ⟨i', k', i1', i2', d3, d4, d5⟩
        · exact absurd d1 hn2
        · exfalso
          obtain ⟨q, q1, q2⟩ := (hKB w hw).resolve_left d3
          rw [d2, q2, c5] at hvw
          have := (nI_eq (by omega) (by omega)).mp hvw
          omega
        · rw [(hrow v).1, (hrow w).1, i2, i2'] at hvw
          rw [(hrow v).1, i2] at hn
          rw [(hrow w).1, i2'] at hn2
          by_cases q : i = i'
          · rw [i2, i2', q]
          · exfalso
            rcases Nat.lt_or_gt_of_ne q with q | q
            · exact hn2 (r4 i i' q i1' hvw)
            · exact hn (r4 i' i q i1 hvw.symm)
  · refine ⟨fun v hv => ?_, fun v w hv hw hvw hn => ?_⟩
    · rw [(hrow v).1]
      by_cases q : rK T6 e v = -1
      · exact Or.inl q
      · exact Or.inr (Or.inl ⟨rfl, q⟩)
    · rw [(hrow v).1, (hrow w).1] at hvw
      rw [(hrow v).1] at hn
      exact hi v w hv hw hvw hn
theorem jH1_c {R T : SR} {e D : Nat} (h : jH1 R e D) (hD : D ≤ 4) (hK : ∀ v, v < 31 → rK T e v = rK R e v ∧ rU T e v = rU R e v) (hK1 : ∀ v, v < 31 → rK T (e - 1) v = rK R (e - 1) v ∧ rU T (e - 1) v = rU R (e - 1) v) (ho : ∀ l, l < 16 → ow T e l = ow R e l ∧ ow T (e - 1) l = ow R (e - 1) l) (hi : ∀ f, f = 15 ∨ f = 16 ∨ f = 17 ∨ f = 18 ∨ f = 19 ∨ f = 21 → T.2 f e = R.2 f e) (hx : enx R T) : jH1 T e D := by
  obtain ⟨c, c1, c2, c3, c4, c5, c6, c7, c8⟩ := h
  refine ⟨c, c1, by rw [hi 15 (by omega)]; exact c2, by rw [(hK1 _ (by omega)).1]; exact c3, by rw [hi 17 (by omega)]; exact c4, fun l hl hk hr => ?_, fun l hl hb => ?_, fun q => ?_, fun v hv hb => ?_⟩
  · rw [(hK1 _ (by omega)).1] at hk ⊢
    rw [hi 17 (by omega)] at hr
    obtain ⟨g1, g2, g3, g4, g5, g6⟩ := c5 l hl hk hr
    rw [(ho l hl).1, (ho l hl).2, hi 19 (by omega), hi 18 (by omega), hi 16 (by omega), (hK _ (show 2 * l < 31 by omega)).1]
    refine ⟨g1, g2, g3, g4, fun i h1 h4 hk9 => ?_, fun q h hlow => ?_⟩
    · rw [(hK _ (pn_31 l hl i h4)).1] at hk9 ⊢
      rw [(hK _ (pn_31 l hl i h4)).2, (hK1 _ (pn_31 l hl i h4)).1, (hK1 _ (pn_31 l hl i h4)).2]
      exact g5 i h1 h4 hk9
    · have hlt := lowc_lt hlow
      obtain ⟨i, i1, i2, i3, k, k1, k2, k3, k4⟩ := g6 q h hlow
      have ersv : rsv (rK T e) (rU T e) h (pn l h) = rsv (rK R e) (rU R e) h (pn l h) := rsv_c h (pn l h) (by omega) (pn_31 l hl h (by omega)) (hgt_pn h (by omega) l hl) (fun r _ h31 => hK r h31)
      refine ⟨i, i1, by rw [ersv]; exact i2, ?_, k, by have := hx.1; omega, ?_, ?_, ?_⟩
      · rw [(hK _ (pn_31 l hl i (by omega))).1, (hK1 _ (pn_31 l hl i (by omega))).1, (hK1 _ (pn_31 l hl i (by omega))).2]; exact i3
      · rw [hx.2 8 (by decide) (by decide) k k1, k2, (hK _ (pn_31 l hl i (by omega))).1]
      · rw [hx.2 10 (by decide) (by decide) k k1]; exact k3
      · rw [hx.2 11 (by decide) (by decide) k k1]; exact k4
  · rw [hi 19 (by omega)] at hb
    obtain ⟨g1, g2⟩ := c6 l hl hb
    refine ⟨g1, fun i h1 h4 hk9 => ?_⟩
    rw [(hK _ (pn_31 l g1 i h4)).1] at hk9
    rw [hi 16 (by omega), (hK _ (pn_31 l g1 i h4)).2]
    exact g2 i h1 h4 hk9
  · rw [hi 21 (by omega)] at q
    rw [hi 16 (by omega)]; exact c7 q
  · rw [hi 16 (by omega)] at hb
    obtain ⟨g1, g2⟩ := c8 v hv hb
    refine ⟨g1, ?_⟩
    rw [(hK v (by have := tW31 hD; omega)).1]; exact g2
theorem jT1_c {S S1 : SC} {R T : SR} {e D : Nat} (h : jT1 S R e D) (h1 : S1.1 2 e = S.1 2 e) (h2 : ∀ c, 2 ≤ c → S1.2.2 c e = S.2.2 c e) (h13 : T.2 13 e = R.2 13 e) (hK : ∀ v, v < 31 → rK T e v = rK R e v ∧ rU T e v = rU R e v ∧ T.2 24 (31 * e + v) = R.2 24 (31 * e + v)) (ho : ∀ l, l < 16 → ow T e l = ow R e l) (hN : R.1 1 ≤ T.1 1) : jT1 S1 T e D := by
  obtain ⟨⟨a1, a2, a3⟩, a4, a5, a6, a7⟩ := h
  refine ⟨⟨by rw [h1]; exact a1, by rw [h13]; exact a2, fun v hv => ?_⟩, TI_c a4 (fun v hv => ⟨(hK v hv).1, (hK v hv).2.1⟩), ⟨fun l hl => ?_, fun l k hl hk => ?_⟩, fun v hv => ?_, fun v w hv hw => ?_⟩
  · rw [h2 2 (by decide), h2 3 (by decide), h2 4 (by decide), (hK v hv).1, (hK v hv).2.1, (hK v hv).2.2]; exact a3 v hv
  · rw [ho l hl, (hK _ (by omega)).1]; exact a5.1 l hl
  · rw [ho l hl, ho k hk]; exact a5.2 l k hl hk
  · rw [(hK v hv).1]; exact (a6 v hv).imp id (fun ⟨k, k1, k2⟩ => ⟨k, by omega, k2⟩)
  · rw [(hK v hv).1, (hK w hw).1]; exact a7 v w hv hw
