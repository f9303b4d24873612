/-! J BEHIND A COMMIT: epochs, trees, packages, roles, intruder, history -/
/-- what is known of both states behind a commit -/
def BX (S : SC) (R : SR) (e m a D : Nat) (S3 S7 : SC) (T5 T6 R7 : SR) : Prop :=
  (e = R.1 12 ∧ 1 ≤ e ∧ e < 60 ∧ m < 16 ∧ a < 16) ∧ AD S R S3 T5 e a D ∧ PH S3 T6 e a D (R.1 1) ∧ PI S3 T6 e a D (R.1 1) R7 ∧ (rK R (e - 1) (2 * a) ≠ -1 ∧ ow R (e - 1) a = nI m ∧ R.2 27 m = nI (e - 1) ∧ R.2 28 m = nI a) ∧
  (S7.1 0 0 = e + 1 ∧ S7.1 0 1 = R.1 35 ∧ S7.1 0 2 = 0 ∧ sN S7 = R7.1 1 ∧ R7.1 12 = e + 1 ∧ R7.1 35 = R.1 35 ∧ R7.1 42 = 0) ∧
  (R.1 1 + 3 ≤ R7.1 1 ∧ R7.1 1 ≤ R.1 1 + 13 ∧ R7.1 7 ≤ R.1 7 + 26 + 2 * pcN S3 e (fun _ => true) (sP S3) ∧ sR S7 ≤ R7.1 1 + R7.1 7) ∧
  rof e R R7 ∧ cof e S S7 ∧ enx R R7 ∧
  (∀ f, f = 34 ∨ f = 36 ∨ f = 37 ∨ f = 38 ∨ f = 41 ∨ f = 5 ∨ f = 30 → R7.2 f = R.2 f) ∧ (∀ f, f = 13 ∨ f = 15 ∨ f = 17 ∨ f = 18 ∨ f = 19 ∨ f = 26 ∨ f = 39 ∨ f = 40 → R7.2 f = T5.2 f) ∧ ((∀ f, f ≠ 21 → T6.2 f = T5.2 f) ∧ T6.1 = R.1) ∧ R7.2 15 e = nI a ∧
  (∀ c, c = 7 ∨ c = 8 ∨ c = 9 ∨ c = 14 ∨ c = 15 ∨ c = 20 ∨ c = 4 → S7.2.1 c = S3.2.1 c) ∧ S3.2.1 4 e = nI a ∧
  TE S7 R7 e e D ∧ TI D (rK R7 e) (rU R7 e) ∧ (∃ s, R7.1 1 = s + 1 ∧ S7.2.1 5 e = nI s ∧ R7.2 14 e = nI s) ∧ (S7.2.1 6 e = R7.2 16 e ∧ S7.2.1 10 e = R7.2 20 e) ∧ (∀ x y z, ruC S7 x y z ↔ ruR R7 x y z) ∧ ordC S7 ∧ wfF R7 ∧ wfS R7 ∧ (∀ k, R.1 1 ≤ k → k < R7.1 1 → R7.2 2 k ≠ 0) ∧ (∀ f, f = 2 ∨ f = 3 ∨ f = 4 → ∀ k, k < R.1 1 → R7.2 f k = R.2 f k) ∧
  S7.2.1 21 = spr (sN S7) (S7.2.1 22) (S7.2.1 23) (S7.2.1 24) (sR S7 - sR S) (sR S) (S.2.1 21) ∧ (sR S ≤ sR S7 ∧ ∀ j, j < sR S → S7.2.1 22 j = S.2.1 22 j ∧ S7.2.1 23 j = S.2.1 23 j ∧ S7.2.1 24 j = S.2.1 24 j) ∧
  (∀ q, q < 16 → (q ≠ m ∧ R.2 27 q = nI (e - 1) ∧ ¬ R7.2 17 e &&& bitN (R.2 28 q).toNatClampNeg = 0 → S7.1 1 q = 0 ∧ R7.2 27 q = -1) ∧ (q ≠ m ∧ ¬ (R.2 27 q = nI (e - 1) ∧ ¬ R7.2 17 e &&& bitN (R.2 28 q).toNatClampNeg = 0) → S7.1 1 q = S.1 1 q ∧ R7.2 27 q = R.2 27 q)) ∧ S7.1 1 m = 0 ∧ R7.2 27 m = nI e
theorem j_com1 {S : SC} {R : SR} (h : J S R) {e m a D : Nat} {S3 S7 : SC} {T5 T6 R7 : SR} (hB : BX S R e m a D S3 S7 T5 T6 R7) : jN S7 R7 ∧ jZ R7 ∧ jX S7 R7 ∧ jT S7 R7 ∧ jK S7 R7 ∧ jP S7 R7 ∧ jH R7 := by
  have hJ := h
  obtain ⟨⟨⟨n1, n2, n3⟩, ⟨p1, p2⟩, ⟨q1, q2⟩, ⟨c1, c2, c3⟩, c4, c5⟩, hZ, hX, ⟨hT, hO⟩, hM, ⟨hK, hKo⟩, ⟨hP, hPd⟩, hL, -, -, hH, -⟩ := h
  obtain ⟨⟨be, be1, be60, bm, ba⟩, bA, bPH, bPI, ⟨bk, bo, b27, b28⟩, ⟨s0, s1, s2, s3, r12, r35, r42⟩, ⟨m1, m2, m3, m4⟩, brof, bcof, benx, bsame, bT5, ⟨bT6, bT61⟩, b15, bS3, b4, bTE, bTI, ⟨s, bs1, bs2, bs3⟩, ⟨b6, b10⟩, bru, bor, bwf, bws, bkn, bold, bout, ⟨brl, brl2⟩, bmem, bm1, bm27⟩ := hB
  have hD4 := bTI.1
  have hAm := bA.1
  obtain ⟨-, ⟨t7, t8, t9⟩, tO, hPT, -, hra, -⟩ := hAm
  have kK6 : rK T6 e = rK T5 e := by funext v; simp only [rK]; rw [bT6 22 (by decide)]
  have kU6 : rU T6 e = rU T5 e := by funext v; simp only [rU]; rw [bT6 23 (by decide)]
  have ow5 : ∀ l, ow R7 e l = ow T5 e l := fun l => by unfold ow; rw [bT5 26 (by omega)]
  have hPT7 : PT (rK R (e - 1)) (rU R (e - 1)) (ow R (e - 1)) (R7.2 17 e) (R7.2 18 e) (R7.2 19 e) D (rK T6 e) (rU T6 e) (ow R7 e) := by
    rw [bT5 17 (by omega), bT5 18 (by omega), bT5 19 (by omega), kK6, kU6, show ow R7 e = ow T5 e from funext ow5]; exact hPT
  have hra7 : tb (R7.2 17 e) a = false := by rw [bT5 17 (by omega)]; exact hra
  obtain ⟨hH1, hOI7, hblk⟩ := tr_new bPH bPI hPT7 (fun v hv => ⟨(rof_row brof (by omega) hv).1, (rof_row brof (by omega) hv).2.1⟩) (fun l hl => rof_ow brof (by omega) hl) b15 bk hra7 (by rw [bT6 19 (by decide), bT5 19 (by omega)])
  have hinj6 : ∀ v w, v < 31 → w < 31 → rK T6 e v = rK T6 e w → rK T6 e v ≠ -1 → v = w := by
    rw [kK6]
    have := inj5 hJ (a := a) (D := D) (S3 := S3) (T5 := T5) (by rw [← be]; exact bA)
    rw [← be] at this; exact this
  obtain ⟨tn1, tn2⟩ := tree_new bPH bPI hinj6
  have hKB := bPH.2.2.2.2.2.2.2.2.2.2.2.1
  have hpk := bA.2.1
  have eP : sP S3 = R.1 35 := by rw [bPH.2.2.2.2.2.2.2.2.2.2.2.2.1.1, bT61]
  have rows : ∀ f, f < e → (∀ v, v < 31 → rK R7 f v = rK R f v ∧ rU R7 f v = rU R f v ∧ R7.2 24 (31 * f + v) = R.2 24 (31 * f + v)) ∧ ∀ l, l < 16 → ow R7 f l = ow R f l := fun f hf => ⟨fun v hv => rof_row brof (by omega) hv, fun l hl => rof_ow brof (by omega) hl⟩
  have ints : ∀ f g, f ≠ e → 13 ≤ g → g ≤ 21 → R7.2 g f = R.2 g f := fun f g hf h1 h2 => rof_i brof hf h1 h2
  refine ⟨⟨⟨?_, ?_, ?_⟩, ⟨?_, ?_⟩, ⟨?_, ?_⟩, ⟨s3, ?_, ?_⟩, ?_, m4⟩, ⟨fun f h1 h2 => ?_, fun p hp => by rw [bsame 41 (by omega)]; exact hZ.2 p (by rw [← r35]; exact hp)⟩, fun f hf => ?_, ⟨fun f hf => ?_, fun l hl => ?_⟩, ⟨fun p hp => ?_, fun p q hpq hq => ?_⟩, ⟨fun i hi => ?_, fun i j hij hj => ?_⟩, fun f D9 h1 h2 h13 hD9 => ?_⟩
  · show S7.1 0 0 = R7.1 12; rw [s0, r12]
  · rw [r12]; omega
  · rw [r12]; omega
  · show S7.1 0 1 = R7.1 35; rw [s1, r35]
  · rw [r35]; exact p2
  · show S7.1 0 2 = R7.1 42; rw [s2, r42]
  · rw [r42]; omega
  · omega
  · rw [r35, r12, r42]; omega
  · -- what was sent
    have hu : ucn (R7.2 39) (R.1 35) = ucn (R.2 39) (R.1 35) + pcN S3 e (fun _ => true) (R.1 35) := ucn_pc (nI_ne1 (by omega)) (R.1 35) (fun p hp => by
      obtain ⟨g1, -, g3⟩ := hpk p hp
      rw [bT5 39 (by omega)]
      refine ⟨g1, ?_⟩
      rcases g3 with g3 | g3
      · refine Or.inl ⟨g3.1, ?_⟩
        rcases (hK p hp).2.2.2.2 with g14 | ⟨f9, l9, u1, u2, u3, -⟩
        · rw [g14.1]; exact fun w => nI_ne1 (by omega) w.symm
        · rw [u3]; exact fun w => by have := (nI_eq (by omega) (by omega)).mp w; omega
      · exact Or.inr ⟨g3.1, g3.2.1⟩)
    rw [r35, r12, hu]
    rw [eP] at m3
    rw [← be] at c4
    omega
  · rw [r12] at h1
    have h9 := hZ.1 f (by omega) h2
    rw [ints f 16 (by omega) (by decide) (by decide), ints f 17 (by omega) (by decide) (by decide), ints f 18 (by omega) (by decide) (by decide), ints f 19 (by omega) (by decide) (by decide), ints f 20 (by omega) (by decide) (by decide)]
    exact h9
  · rw [r12] at hf
    by_cases q : f = e
    · subst q
      refine ⟨⟨?_, by rw [bs2, bs3], b6, ?_, ?_, ?_, b10⟩, s, by omega, bs3⟩
      · rw [bS3 4 (by omega), b4, b15]
      · rw [bS3 7 (by omega), bT5 17 (by omega)]; exact t7
      · rw [bS3 8 (by omega), bT5 18 (by omega)]; exact t8
      · rw [bS3 9 (by omega), bT5 19 (by omega)]; exact t9
    · obtain ⟨h9, s9, h10, h11⟩ := hX f (by omega)
      rw [ints f 15 q (by decide) (by decide), ints f 14 q (by decide) (by decide), ints f 16 q (by decide) (by decide), ints f 17 q (by decide) (by decide), ints f 18 q (by decide) (by decide), ints f 19 q (by decide) (by decide), ints f 20 q (by decide) (by decide), bcof.2.1 4 f (by decide) (by decide) q, bcof.2.1 5 f (by decide) (by decide) q, bcof.2.1 6 f (by decide) (by decide) q, bcof.2.1 7 f (by decide) (by decide) q, bcof.2.1 8 f (by decide) (by decide) q, bcof.2.1 9 f (by decide) (by decide) q, bcof.2.1 10 f (by decide) (by decide) q]
      exact ⟨h9, s9, by omega, h11⟩
  · rw [r12] at hf
    by_cases q : f = e
    · subst q
      refine ⟨D, bTE, bTI, hOI7, fun v hv => ?_, tn2⟩
      rcases tn1 v hv with w | ⟨w1, w2⟩ | ⟨k, w1, w2, w3⟩
      · exact Or.inl w
      · obtain ⟨k, k1, k2⟩ := (hKB v hv).resolve_left w2
        exact Or.inr ⟨k, by omega, by rw [w1]; exact k2⟩
      · exact Or.inr ⟨k, by omega, w3⟩
    · obtain ⟨D9, hD9⟩ := hT f (by omega)
      exact ⟨D9, jT1_c hD9 (bcof.2.2.1 f q) (fun c hc => bcof.1 c f hc q) (ints f 13 q (by decide) (by decide)) (rows f (by omega)).1 (rows f (by omega)).2 (by omega)⟩
  · rw [r12, Nat.add_sub_cancel, bS3 20 (by omega), ow5]; exact tO l hl
  · rw [r35] at hp
    obtain ⟨⟨g1, g2, g3, g4, g5⟩, g6, ⟨f, f1, f2, f3⟩, g7, g8⟩ := hK p hp
    obtain ⟨k1, k2, k3⟩ := hpk p hp
    rw [bcof.2.2.2.1 11 (by omega), bcof.2.2.2.1 12 (by omega), bcof.2.2.2.1 13 (by omega), bcof.2.2.2.1 16 (by omega), bS3 14 (by omega), bS3 15 (by omega), bsame 36 (by omega), bsame 37 (by omega), bsame 38 (by omega), bsame 41 (by omega), bT5 39 (by omega), bT5 40 (by omega)]
    refine ⟨⟨g1, g2, g3, k1, g5⟩, g6, ⟨f, by omega, f2, f3⟩, g7, ?_⟩
    rcases k3 with ⟨k3, k4⟩ | ⟨k3, k4, l, l1, l2, l3, l4, l5⟩
    · rcases g8 with g8 | ⟨f9, l, u1, u2, u3, u4, u5, u6, u7, u8, u9⟩
      · exact Or.inl ⟨by rw [k3]; exact g8.1, g8.2⟩
      · have hf9 : f9 < e := by omega
        refine Or.inr ⟨f9, l, u1, by rw [r12]; omega, by rw [k3]; exact u3, u4, by rw [k4]; exact u5, ?_, by rw [(rows f9 hf9).2 l u4]; exact u7, by rw [((rows f9 hf9).1 _ (by omega)).1]; exact u8, ?_⟩
        · rw [k2 (by rw [k3, u3]; exact nI_ne1 (by omega)), k4]; exact u5
        · rw [ints f9 19 (by omega) (by decide) (by decide)]; exact u9
    · have hj0 : R.2 41 p = 0 := by
        rcases g8 with g8 | ⟨f9, l9, -, u2, u3, -⟩
        · exact g8.2
        · rw [k3] at u3; exact absurd u3.symm (nI_ne1 (by omega))
      refine Or.inr ⟨e, l, be1, by rw [r12]; omega, k4, l1, l2, ?_, by rw [ow5]; exact l3, ?_, by rw [bT5 19 (by omega)]; exact l5⟩
      · rw [k2 (by rw [k4]; exact nI_ne1 (by omega))]; exact l2
      · rw [← l4, ← kK6]
        have hne : rK R7 e (2 * l) ≠ -1 := fun w => by
          have := (hblk l l1).mp w
          rw [kK6, l4] at this
          rw [f3] at this
          exact nI_ne1 (by omega) this
        rcases tn1 (2 * l) (by omega) with w | ⟨w1, -⟩ | ⟨k, w1, w2, w3⟩
        · exact absurd w hne
        · exact w1
        · -- a new key lies on the committer's leaf alone
          exfalso
          have hla : l ≠ a := fun w => by
            have := (hPT.2.2.1 a ba bk hra).2.1
            rw [← w, l5] at this; cases this
          rcases bPI with ⟨-, X, Y, p9, hPA, hrow, -⟩ | ⟨-, -, hrow⟩
          · obtain ⟨-, -, -, ⟨r1, -⟩, -⟩ := hPA
            have h9 := (r1 (2 * l) (by omega) (fun i hi w => by have := pn_lf a ba i (by omega) l l1 w.symm; omega)).1
            rw [(hrow _).1, h9, kK6, l4, f3] at w3
            have := (nI_eq (by omega) (by omega)).mp w3
            omega
          · rw [(hrow _).1, kK6, l4, f3] at w3
            have := (nI_eq (by omega) (by omega)).mp w3
            omega
  · rw [r35] at hq
    rw [bsame 38 (by omega), bsame 37 (by omega)]
    obtain ⟨f, g, f1, g1, hfg, hg⟩ := hKo p q hpq hq
    exact ⟨f, g, f1, g1, hfg, by omega⟩
  · rw [r42] at hi; exact absurd hi (Nat.not_lt_zero i)
  · rw [r42] at hj; exact absurd hj (Nat.not_lt_zero j)
  · rw [r12] at h2
    by_cases q : f = e
    · subst q
      have : D9 = D := by
        rw [bTE.2.1] at h13
        exact ((nI_eq (by omega) (by omega)).mp h13).symm
      rw [this]; exact hH1
    · rw [ints f 13 q (by decide) (by decide)] at h13
      exact jH1_c (hH f D9 h1 (by omega) h13 hD9) hD9 (fun v hv => ⟨((rows f (by omega)).1 v hv).1, ((rows f (by omega)).1 v hv).2.1⟩) (fun v hv => ⟨((rows (f - 1) (by omega)).1 v hv).1, ((rows (f - 1) (by omega)).1 v hv).2.1⟩) (fun l hl => ⟨(rows f (by omega)).2 l hl, (rows (f - 1) (by omega)).2 l hl⟩) (fun g hg => ints f g q (by omega) (by omega)) benx
