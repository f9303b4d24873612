/-! J BEHIND A COMMIT: members -/
def lvq (R R7 : SR) (e q : Nat) : Prop := R.2 27 q = nI (e - 1) ∧ ¬ R7.2 17 e &&& bitN (R.2 28 q).toNatClampNeg = 0
def MX (S : SC) (R : SR) (e m a D : Nat) (S7 : SC) (R7 : SR) : Prop :=
  (∀ q, q < 16 → q ≠ m → (lvq R R7 e q → mv S7 q = mvL S q) ∧ (¬ lvq R R7 e q → mv S7 q = mv S q)) ∧
  mv S7 m = (nI e, nI a, nsec (S.2.1 2 m) (S7.2.1 5 e), S.2.1 3 m, 0, lrq D (S7.2.2 2 e) (S7.2.1 6 e) a (lowc D (S7.2.1 6 e) a) (upd (drp D (S7.2.2 2 e) a (S.2.2 0 m) 5) 0 (S7.2.2 2 e (2 * a))), S.2.2 1 m) ∧
  (∀ q, q < 16 → q ≠ m → (lvq R R7 e q → R7.2 27 q = -1 ∧ R7.2 28 q = -1 ∧ R7.2 29 q = -1 ∧ R7.2 31 q = 0 ∧ R7.2 32 q = 0 ∧ ∀ v, v < 31 → R7.2 33 (31 * q + v) = -1) ∧ (¬ lvq R R7 e q → R7.2 27 q = R.2 27 q ∧ R7.2 28 q = R.2 28 q ∧ R7.2 29 q = R.2 29 q ∧ R7.2 31 q = R.2 31 q ∧ R7.2 32 q = R.2 32 q ∧ ∀ v, v < 31 → R7.2 33 (31 * q + v) = R.2 33 (31 * q + v))) ∧
  (R7.2 27 m = nI e ∧ R7.2 28 m = nI a ∧ R7.2 29 m = rK R7 e (2 * a) ∧ R7.2 31 m = 0 ∧ R7.2 32 m = R.2 32 m ∧ (∀ i, 1 ≤ i → i ≤ 4 → R7.2 33 (31 * m + pn a i) = mvk D (rK R7 e) (R7.2 16 e) a i (R.2 33 (31 * m + pn a i))) ∧ ∀ v, v < 31 → (∀ i, 1 ≤ i → i ≤ 4 → v ≠ pn a i) → R7.2 33 (31 * m + v) = -1)
theorem jM_com {S : SC} {R : SR} (h : J S R) {e m a D : Nat} {S3 S7 : SC} {T5 T6 R7 : SR} (hB : BX S R e m a D S3 S7 T5 T6 R7) (hX : MX S R e m a D S7 R7) : jM S7 R7 := by
  have hJ1 := j_com1 h hB
  have hH := hJ1.2.2.2.2.2.2
  obtain ⟨⟨⟨n1, n2, n3⟩, ⟨p1, p2⟩, ⟨q1, q2⟩, ⟨c1, c2, c3⟩, c4, c5⟩, -, hX0, ⟨hT, hO⟩, hM, -⟩ := h
  obtain ⟨⟨be, be1, be60, bm, ba⟩, bA, bPH, bPI, ⟨bk, bo, b27, b28⟩, ⟨s0, s1, s2, s3, r12, r35, r42⟩, ⟨m1, m2, m3, m4⟩, brof, bcof, benx, bsame, bT5, ⟨bT6, bT61⟩, b15, bS3, b4, bTE, bTI, ⟨s, bs1, bs2, bs3⟩, ⟨b6, b10⟩, -⟩ := hB
  obtain ⟨x1, x2, x3, ⟨y1, y2, y3, y4, y5, y6, y7⟩⟩ := hX
  have hD4 := bTI.1
  intro q hq
  obtain ⟨⟨g1, g2, g3, g4, g5, g6⟩, g7⟩ := hM q hq
  by_cases hqm : q = m
  · -- the committer
    subst hqm
    simp only [mv, Prod.mk.injEq] at x2
    obtain ⟨v0, v1, v2, v3, v4, v5, v6⟩ := x2
    refine ⟨⟨by rw [v0, y1], by rw [v1, y2], by rw [v3, bsame 30 (by omega)]; exact g3, by rw [v4, y4]; rfl, by rw [v4]; omega, fun k hk => by rw [v4] at hk; exact absurd hk (Nat.not_lt_zero k)⟩, Or.inr ⟨e, a, ?_⟩⟩
    rcases g7 with g7 | ⟨f, l, g8⟩
    · have := g7.1; rw [b27] at this; exact absurd this (nI_ne1 (by omega))
    obtain ⟨i1, i2, i3, i4, i5, i6, i7, i8, i9, i10, i11, i12⟩ := g8
    have hf : f = e - 1 := by rw [b27] at i1; exact ((nI_eq (by omega) (by omega)).mp i1).symm
    subst hf
    have hl : l = a := by rw [b28] at i4; exact ((nI_eq (by omega) (by omega)).mp i4).symm
    subst hl
    obtain ⟨cc, -, -, -, -, hsv, -, h21, hcw⟩ := hH e D be1 (by rw [r12]; omega) bTE.2.1 hD4
    have hcw2 : ∀ v, v < 32 → tb (R7.2 16 e) v = true → v < tW D := fun v hv hb => (hcw v hv hb).1
    have rowm : ∀ v, v < 31 → rK R7 (e - 1) v = rK R (e - 1) v ∧ rU R7 (e - 1) v = rU R (e - 1) v := fun v hv => ⟨(rof_row brof (by omega) hv).1, (rof_row brof (by omega) hv).2.1⟩
    have hsv9 := hsv l ba (by rw [(rowm _ (by omega)).1]; exact bk) (by rw [bT5 17 (by omega)]; exact bA.1.2.2.2.2.2.1)
    have tkR : ∀ i, i ≤ 4 → tk D (rK R7 e) (pn l i) = rK R7 e (pn l i) := fun i hi => by
      unfold tk
      by_cases w : pn l i < tW D
      · rw [if_pos w]
      · rw [if_neg w]; exact ((bTI.2 _ (pn_31 l ba i hi)).1 (by omega)).symm
    have tkS : ∀ i, i ≤ 4 → tk D (S7.2.2 2 e) (pn l i) = rK R7 e (pn l i) := fun i hi => by
      unfold tk
      by_cases w : pn l i < tW D
      · rw [if_pos w]; exact (bTE.2.2 _ (pn_31 l ba i hi)).1
      · rw [if_neg w]; exact ((bTI.2 _ (pn_31 l ba i hi)).1 (by omega)).symm
    obtain ⟨bsec, hb1, hb2⟩ := (hX0 (e - 1) (by omega)).2
    refine ⟨y1, by rw [r12]; omega, ba, y2, by rw [hsv9.1, show ow R7 (e - 1) l = ow R (e - 1) l from rof_ow brof (by omega) ba]; exact bo, ?_, by rw [y5]; exact i7, y3, ?_, fun i h1 h4 => ⟨?_, ?_, fun hk9 => ?_⟩, y7, fun _ => by rw [v4]; omega⟩
    · rw [v2, i6, hb2]; unfold nsec; rw [if_neg (nI_ne1 (by omega)), bs2, bs3]
    · rw [v5, lrq_0, y3]; simp only [upd, if_true]; exact (bTE.2.2 _ (by omega)).1
    · rw [v5, lrq_c ba hD4 (by rw [b6]; exact hcw2) h1 h4, b6, y6 i h1 h4]
      unfold mvk
      rw [tkS i h4, tkR i h4]
      by_cases w : tb (R7.2 16 e) (pn l i) = true
      · rw [if_pos w, if_pos w]
      · rw [if_neg w, if_neg w]
        simp only [upd]
        rw [if_neg (by omega)]
        simp only [drp]
        rw [tkS i h4, (i10 i h1 h4).1]
        by_cases z : R.2 33 (31 * q + pn l i) = rK R7 e (pn l i)
        · rw [if_neg (fun z9 => z9.2 z), if_pos z]
        · rw [if_pos ⟨by omega, z⟩, if_neg z]
    · rw [y6 i h1 h4]
      unfold mvk
      rw [tkR i h4]
      by_cases w : tb (R7.2 16 e) (pn l i) = true
      · rw [if_pos w]; exact Or.inr rfl
      · rw [if_neg w]
        by_cases z : R.2 33 (31 * q + pn l i) = rK R7 e (pn l i)
        · rw [if_pos z]; exact Or.inr z
        · rw [if_neg z]; exact Or.inl rfl
    · rw [y6 i h1 h4]
      unfold mvk
      rw [tkR i h4]
      rcases hsv9.2.2.2.2.1 i h1 h4 hk9 with w | ⟨w1, w2, w3⟩
      · rw [if_pos w]; exact Or.inl rfl
      · by_cases w : tb (R7.2 16 e) (pn l i) = true
        · rw [if_pos w]; exact Or.inl rfl
        · rw [if_neg w]
          rw [(rowm _ (pn_31 l ba i h4)).1] at w1
          rw [(rowm _ (pn_31 l ba i h4)).2] at w3
          rcases (i10 i h1 h4).2.2 (by rw [← w1]; exact hk9) with u | u
          · rw [if_pos (by rw [w1]; exact u), w1]; exact Or.inl u
          · exact Or.inr (w3 u)
  · by_cases w : lvq R R7 e q
    · -- one who was removed
      have a1 := (x1 q hq hqm).1 w
      obtain ⟨a2, a3, a4, a5, a6, a7⟩ := (x3 q hq hqm).1 w
      simp only [mv, mvL, Prod.mk.injEq] at a1
      obtain ⟨v0, v1, v2, v3, v4, v5, v6⟩ := a1
      exact ⟨⟨by rw [v0, a2], by rw [v1, a3], by rw [v3, bsame 30 (by omega)]; exact g3, by rw [v4, a5]; rfl, by rw [v4]; omega, fun k hk => by rw [v4] at hk; exact absurd hk (Nat.not_lt_zero k)⟩, Or.inl ⟨a2, a3, v2, a6, a4, fun i hi => by rw [v5]; simp [fl, hi], a7, v4⟩⟩
    · have a1 := (x1 q hq hqm).2 w
      obtain ⟨a2, a3, a4, a5, a6, a7⟩ := (x3 q hq hqm).2 w
      simp only [mv, Prod.mk.injEq] at a1
      obtain ⟨v0, v1, v2, v3, v4, v5, v6⟩ := a1
      refine ⟨⟨by rw [v0, a2]; exact g1, by rw [v1, a3]; exact g2, by rw [v3, bsame 30 (by omega)]; exact g3, by rw [v4, a5]; exact g4, by rw [v4]; exact g5, fun k hk => by rw [v4] at hk; rw [v6, bsame 34 (by omega)]; exact g6 k hk⟩, ?_⟩
      rcases g7 with ⟨u1, u2, u3, u4, u5, u6, u7, u8⟩ | ⟨f, l, i1, i2, i3, i4, i5, i6, i7, i8, i9, i10, i11, i12⟩
      · exact Or.inl ⟨by rw [a2]; exact u1, by rw [a3]; exact u2, by rw [v2]; exact u3, by rw [a6]; exact u4, by rw [a4]; exact u5, fun i hi => by rw [v5]; exact u6 i hi, fun v hv => by rw [a7 v hv]; exact u7 v hv, by rw [v4]; exact u8⟩
      · right
        have hfe : f < e := by omega
        have row : ∀ v, v < 31 → rK R7 f v = rK R f v ∧ rU R7 f v = rU R f v := fun v hv => ⟨(rof_row brof (by omega) hv).1, (rof_row brof (by omega) hv).2.1⟩
        refine ⟨f, l, by rw [a2]; exact i1, by rw [r12]; omega, i3, by rw [a3]; exact i4, by rw [show ow R7 f l = ow R f l from rof_ow brof (by omega) i3]; exact i5, by rw [v2, rof_i brof (by omega) (by decide) (by decide)]; exact i6, by rw [a6]; exact i7, by rw [a4, (row _ (by omega)).1]; exact i8, by rw [v5, a4]; exact i9, fun i h1 h4 => ?_, fun v hv hn => by rw [a7 v hv]; exact i11 v hv hn, fun z => by rw [r12] at z; omega⟩
        have h31 := pn_31 l i3 i h4
        rw [v5, a7 _ h31, (row _ h31).1, (row _ h31).2]
        exact i10 i h1 h4
