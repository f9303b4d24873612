/-! J BEHIND A COMMIT: roles, secrets, intruder, nobody goes back -/
theorem j_com2 {S : SC} {R : SR} (h : J S R) (hok : okC S) {e m a D : Nat} {S3 S7 : SC} {T5 T6 R7 : SR} (hB : BX S R e m a D S3 S7 T5 T6 R7) : jL S7 R7 ∧ jW R7 ∧ jC S7 R7 ∧ jF R7 := by
  have hJ := h
  obtain ⟨⟨⟨n1, n2, n3⟩, ⟨p1, p2⟩, ⟨q1, q2⟩, ⟨c1, c2, c3⟩, c4, c5⟩, -, hX, ⟨hT, hO⟩, hM, ⟨hK, hKo⟩, ⟨hP, hPd⟩, ⟨ρ, l1, l2, l3, l4, l5, l6, l7⟩, ⟨w1, w2, w3, ⟨w4, w5, w6⟩, w7⟩, ⟨hru, hor, hout⟩, -, ⟨hF1, hF2⟩⟩ := h
  obtain ⟨⟨be, be1, be60, bm, ba⟩, bA, bPH, bPI, ⟨bk, bo, b27, b28⟩, ⟨s0, s1, s2, s3, r12, r35, r42⟩, ⟨m1, m2, m3, m4⟩, brof, bcof, benx, bsame, bT5, ⟨bT6, bT61⟩, b15, bS3, b4, bTE, bTI, ⟨s, bs1, bs2, bs3⟩, ⟨b6, b10⟩, bru, bor, bwf, bws, bkn, bold, bout, ⟨brl, brl2⟩, bmem, bm1, bm27⟩ := hB
  have hN : R7.1 1 ≤ 2600 := by omega
  have inj : ∀ {p q : Nat}, p < 2600 → q < 2600 → nI p = nI q → p = q := fun hp hq e => (nI_eq (by omega) (by omega)).mp e
  have hAm := bA.1
  obtain ⟨-, -, tO, hPT, -, hra, -⟩ := hAm
  have kK6 : rK T6 e = rK T5 e := by funext v; simp only [rK]; rw [bT6 22 (by decide)]
  have ow5 : ∀ l, ow R7 e l = ow T5 e l := fun l => by unfold ow; rw [bT5 26 (by omega)]
  have hinj6 : ∀ v w, v < 31 → w < 31 → rK T6 e v = rK T6 e w → rK T6 e v ≠ -1 → v = w := by
    rw [kK6]
    have := inj5 hJ (a := a) (D := D) (S3 := S3) (T5 := T5) (by rw [← be]; exact bA)
    rw [← be] at this; exact this
  obtain ⟨tn1, -⟩ := tree_new bPH bPI hinj6
  have hpk := bA.2.1
  have hor9 := bA.2.2
  have rows : ∀ f, f < e → ∀ v, v < 31 → rK R7 f v = rK R f v := fun f hf v hv => (rof_row brof (by omega) hv).1
  have ints : ∀ f g, f ≠ e → 13 ≤ g → g ≤ 21 → R7.2 g f = R.2 g f := fun f g hf h1 h2 => rof_i brof hf h1 h2
  -- a package's use, old or new
  have use : ∀ p f, p < R.1 35 → R7.2 39 p = nI f → f < e + 1 → (R.2 39 p = nI f ∧ f < e) ∨ (R.2 39 p = -1 ∧ f = e ∧ ∃ l, l < 16 ∧ ow T5 e l = R.2 36 p ∧ tb (T5.2 19 e) l = true) := fun p f hp h39 hf => by
    rw [bT5 39 (by omega)] at h39
    obtain ⟨-, -, g3⟩ := hpk p hp
    rcases g3 with g3 | ⟨g3, g4, l, g5, -, g6, -, g7⟩
    · left
      rw [g3.1] at h39
      refine ⟨h39, ?_⟩
      rcases (hK p hp).2.2.2.2 with g14 | ⟨f9, l9, u1, u2, u3, -⟩
      · rw [g14.1] at h39; exact absurd h39.symm (nI_ne1 (by omega))
      · rw [u3] at h39
        have := inj (by omega) (by omega) h39
        omega
    · right
      rw [g4] at h39
      exact ⟨g3, (inj (by omega) (by omega) h39).symm, l, g5, g6, g7⟩
  -- where a member is now
  have wh : ∀ q, q < 16 → (q = m ∧ R7.2 27 q = nI e ∧ S7.1 1 q = 0) ∨ (q ≠ m ∧ R.2 27 q = nI (e - 1) ∧ R7.2 27 q = -1 ∧ S7.1 1 q = 0) ∨ (q ≠ m ∧ R7.2 27 q = R.2 27 q ∧ S7.1 1 q = S.1 1 q) := fun q hq => by
    by_cases z : q = m
    · subst z; exact Or.inl ⟨rfl, bm27, bm1⟩
    · by_cases w : R.2 27 q = nI (e - 1) ∧ ¬ R7.2 17 e &&& bitN (R.2 28 q).toNatClampNeg = 0
      · have := (bmem q hq).1 ⟨z, w⟩
        exact Or.inr (Or.inl ⟨z, w.1, this.2, this.1⟩)
      · have := (bmem q hq).2 ⟨z, w⟩
        exact Or.inr (Or.inr ⟨z, this.2, this.1⟩)
  have atl : ∀ q x, q < 16 → R.2 27 q = nI x → x < 2600 → x < e := fun q x hq h27 hx => by
    rcases (hM q hq).2 with g | ⟨f, l, g1, g2, -⟩
    · rw [g.1] at h27; exact absurd h27.symm (nI_ne1 (by omega))
    · rw [g1] at h27
      have := inj (by omega) hx h27
      omega
  refine ⟨⟨fun k => if k < R.1 1 then ρ k else if k + 1 = R7.1 1 then 2 else 1, fun f u hf h14 hu => ?_, fun f v k hf hv hk hkN => ?_, fun p f hp h37 hf => ?_, fun q k hq hk => ?_, fun f v p hf hv hp hk => ?_, fun q k x f v hq hk h27 hx hfx hv => ?_, fun q i j hq hij hj => ?_⟩, ⟨bwf, bws, ?_, ⟨fun k hk => ?_, fun k => ?_, fun k hk => ?_⟩, fun k hk => ?_⟩, ⟨bru, bor, ?_⟩, ⟨fun q x p f hq h27 hx hp h36 h41 h39 hf => ?_, fun f c q h1 h2 hc hq h15 ho => ?_⟩⟩
  · -- epochs' secrets
    rw [r12] at hf
    by_cases z : f = e
    · subst z
      rw [bs3] at h14
      have := inj (by omega) (by omega) h14
      dsimp only
      rw [if_neg (by omega), if_pos (by omega)]
    · rw [ints f 14 z (by decide) (by decide)] at h14
      obtain ⟨-, s9, h10, h11⟩ := hX f (by omega)
      rw [h11] at h14
      have := inj (by omega) (by omega) h14
      subst this
      dsimp only
      rw [if_pos h10]; exact l1 f s9 (by omega) h11 h10
  · rw [r12] at hf
    by_cases z : f = e
    · subst z
      rcases tn1 v hv with w | ⟨w1, w2⟩ | ⟨k9, w1, w2, w3⟩
      · rw [w] at hk; exact absurd hk.symm (nI_ne1 (by omega))
      · rw [w1, kK6] at hk
        rw [kK6] at w2
        dsimp only
        rcases hor9 v hv w2 with g | ⟨l, j, -, -, g1, g2, -, g3⟩ | ⟨l, p, -, -, g1, -, -, g2⟩
        · rw [g] at hk
          obtain ⟨D9, -, -, -, hkb, -⟩ := hT (f - 1) (by omega)
          obtain ⟨k8, k1, k2⟩ := (hkb v hv).resolve_left (by rw [← g]; exact w2)
          rw [k2] at hk
          have := inj (by omega) (by omega) hk
          subst this
          rw [if_pos k1]; exact l2 (f - 1) v k8 (by omega) hv k2 k1
        · obtain ⟨-, ⟨q, g4, -, -, g5⟩, -⟩ := hP j g1
          obtain ⟨i, i1, i2⟩ := g5 g2
          obtain ⟨u, u1, u2, u3⟩ := l4 q i g4 i1
          rw [g3, i2, u2] at hk
          have := inj (by omega) (by omega) hk
          subst this
          rw [if_pos u1]; exact Or.inr (Or.inr u3)
        · obtain ⟨-, -, ⟨f9, f1, f2, f3⟩, -⟩ := hK p g1
          rw [g2, f3] at hk
          have := inj (by omega) (by omega) hk
          subst this
          rw [if_pos f1]; exact Or.inr (Or.inl (l3 p f9 g1 f2 f1).2)
      · rw [w3] at hk
        have := inj (by omega) (by omega) hk
        subst this
        dsimp only
        rw [if_neg (by omega), if_neg (by omega)]; exact Or.inl rfl
    · rw [rows f (by omega) v hv] at hk
      obtain ⟨D9, -, -, -, hkb, -⟩ := hT f (by omega)
      obtain ⟨k8, k1, k2⟩ := (hkb v hv).resolve_left (by rw [hk]; exact nI_ne1 (by omega))
      rw [k2] at hk
      have := inj (by omega) (by omega) hk
      subst this
      dsimp only
      rw [if_pos k1]; exact l2 f v k8 (by omega) hv k2 k1
  · rw [r35] at hp
    rw [bsame 37 (by omega)] at h37
    obtain ⟨-, -, ⟨f9, f1, f2, f3⟩, -⟩ := hK p hp
    rw [f2] at h37
    have := inj (by omega) (by omega) h37
    subst this
    dsimp only
    rw [if_pos (by omega), if_pos f1]; exact l3 p f9 hp f2 f1
  · rw [bsame 34 (by omega)]
    rcases wh q hq with ⟨-, -, w⟩ | ⟨-, -, -, w⟩ | ⟨-, -, w⟩
    · rw [w] at hk; exact absurd hk (Nat.not_lt_zero k)
    · rw [w] at hk; exact absurd hk (Nat.not_lt_zero k)
    · rw [w] at hk
      obtain ⟨u, u1, u2, u3⟩ := l4 q k hq hk
      exact ⟨u, by omega, u2, by dsimp only; rw [if_pos u1]; exact u3⟩
  · rw [r12] at hf
    rw [r35] at hp
    rw [bsame 38 (by omega)] at hk
    have old : ∀ f9, f9 < e → rK R f9 v = R.2 38 p → ∃ g, g ≤ f9 ∧ R7.2 39 p = nI g := fun f9 hf9 hk9 => by
      obtain ⟨g, g1, g2⟩ := l5 f9 v p (by omega) hv hp hk9
      refine ⟨g, g1, ?_⟩
      rw [bT5 39 (by omega)]
      obtain ⟨-, -, g3⟩ := hpk p hp
      rcases g3 with g3 | g3
      · rw [g3.1]; exact g2
      · rw [g3.1] at g2; exact absurd g2.symm (nI_ne1 (by omega))
    by_cases z : f = e
    · subst z
      obtain ⟨-, -, ⟨f9, f1, f2, f3⟩, -⟩ := hK p hp
      rcases tn1 v hv with w | ⟨w1, w2⟩ | ⟨k9, w1, w2, w3⟩
      · rw [w, f3] at hk; exact absurd hk.symm (nI_ne1 (by omega))
      · rw [w1, kK6] at hk
        rw [kK6] at w2
        rcases hor9 v hv w2 with g | ⟨l, j, -, -, g1, g2, -, g3⟩ | ⟨l, p9, -, -, g1, g4, -, g2⟩
        · obtain ⟨g9, u1, u2⟩ := old (f - 1) (by omega) (by rw [← g]; exact hk)
          exact ⟨g9, by omega, u2⟩
        · exfalso
          obtain ⟨-, ⟨q, g4, -, -, g5⟩, -⟩ := hP j g1
          obtain ⟨i, i1, i2⟩ := g5 g2
          obtain ⟨u, u1, u2, u3⟩ := l4 q i g4 i1
          rw [g3, i2, u2, f3] at hk
          have := inj (by omega) (by omega) hk
          subst this
          have := (l3 p f9 hp f2 f1).2
          omega
        · have hpp : p9 = p := by
            by_cases z9 : p9 = p
            · exact z9
            · exfalso
              rw [g2] at hk
              have key : ∀ s t, s < t → t < R.1 35 → R.2 38 s ≠ R.2 38 t := fun s t hst ht q9 => by
                obtain ⟨f8, g, f81, g1, hfg, hg⟩ := hKo s t hst ht
                obtain ⟨-, -, ⟨f', v1, v2, v3⟩, -⟩ := hK t ht
                rw [f81, v3] at q9
                rw [g1] at v2
                have e1 := inj (by omega) (by omega) q9
                have e2 := inj (by omega) (by omega) v2
                omega
              rcases Nat.lt_or_gt_of_ne z9 with z9 | z9
              · exact key p9 p z9 hp hk
              · exact key p p9 z9 g1 hk.symm
          subst hpp
          exact ⟨f, Nat.le_refl _, by rw [bT5 39 (by omega)]; exact g4⟩
      · rw [w3, f3] at hk
        have := inj (by omega) (by omega) hk
        omega
    · rw [rows f (by omega) v hv] at hk
      exact old f (by omega) hk
  · rw [bsame 34 (by omega)]
    rcases wh q hq with ⟨-, -, w⟩ | ⟨-, -, -, w⟩ | ⟨-, w9, w⟩
    · rw [w] at hk; exact absurd hk (Nat.not_lt_zero k)
    · rw [w] at hk; exact absurd hk (Nat.not_lt_zero k)
    · rw [w] at hk
      rw [w9] at h27
      rw [r12] at hx
      have := atl q x hq h27 (by omega)
      rw [rows f (by omega) v hv]
      exact l6 q k x f v hq hk h27 (by omega) hfx hv
  · rw [bsame 34 (by omega)]
    rcases wh q hq with ⟨-, -, w⟩ | ⟨-, -, -, w⟩ | ⟨-, -, w⟩
    · rw [w] at hj; exact absurd hj (Nat.not_lt_zero j)
    · rw [w] at hj; exact absurd hj (Nat.not_lt_zero j)
    · rw [w] at hj; exact l7 q i j hq hij hj
  · -- INIT of the newest epoch's secret is not there
    rw [r12, Nat.add_sub_cancel, bs3]
    rintro i hi ⟨g1, g2, -⟩
    obtain ⟨b, hb, hb2⟩ := bwf i hi (by rw [g1]; decide) (by rw [g1]; decide)
    rw [hb2] at g2
    have := inj (by omega) (by omega) g2
    omega
  · by_cases z : k < R.1 1
    · rw [bold 2 (by omega) k z]; exact w4 k z
    · exact ⟨fun q => absurd q (bkn k (by omega) hk), fun q => by omega⟩
  · rw [bsame 5 (by omega)]; exact w5 k
  · rw [bsame 5 (by omega)]; exact w6 k (by omega)
  · obtain ⟨i, i1, i2, i3, i4⟩ := (bru _ _ _).mpr (Or.inr ⟨k, hk, rfl, rfl, rfl⟩ : ruR R7 (R7.2 8 k) (-1) (R7.2 9 k))
    obtain ⟨x, t, x1, x2, x3, x4, -⟩ := bor.1 i i1
    rw [s3] at x4
    exact ⟨⟨x, by omega, by rw [← i2]; exact x1⟩, t, x4, by rw [← i4]; exact x2⟩
  · -- the intruder
    have hN0 : R.1 1 ≤ 2600 := by omega
    have hcl := (clR_ru hN0 w1 w2 w4 (by omega) w7 (KnR R)).mp (KnR_cl R)
    obtain ⟨o1, o2, o3, o4, o5⟩ := hok
    have lowo : ∀ k, S.2.1 21 k = 1 → k < R.1 1 := fun k hk => by
      by_cases z : k < R.1 1
      · exact z
      · have := o4 k (by rw [c1]; omega)
        rw [this] at hk; exact absurd hk (by decide)
    have hp7 := kn_pass s3 hN (by omega) bru bor bwf bws (fun k hk => by
      by_cases z : k < R.1 1
      · rw [bold 2 (by omega) k z]; exact w4 k z
      · exact ⟨fun q => absurd q (bkn k (by omega) hk), fun q => by omega⟩) (fun k hk => by
      obtain ⟨i, i1, i2, i3, i4⟩ := (bru _ _ _).mpr (Or.inr ⟨k, hk, rfl, rfl, rfl⟩ : ruR R7 (R7.2 8 k) (-1) (R7.2 9 k))
      obtain ⟨x, t, x1, x2, x3, x4, -⟩ := bor.1 i i1
      rw [s3] at x4
      exact ⟨⟨x, by omega, by rw [← i2]; exact x1⟩, t, x4, by rw [← i4]; exact x2⟩) (S.2.1 21) o3 (fun j hj => o4 j (by rw [c1]; omega)) (fun k hk => kn_mono (by omega) bold benx (fun j _ hj9 => by rw [bsame 5 (by omega)]; exact hj9) ((hout k (lowo k hk)).mp hk)) ((hout 0 (by omega)).mpr hcl.1) (fun k hk h5 => by
      rw [bsame 5 (by omega)] at h5
      have z : k < R.1 1 := by
        by_cases z : k < R.1 1
        · exact z
        · exact absurd (w6 k (by omega)) h5
      exact (hout k z).mpr (hcl.2.1 k z h5)) brl (fun j hj x t hx ht u1 u3 u4 u5 => by
      obtain ⟨v1, v2, v3⟩ := brl2 j hj
      rw [v1] at u1
      rw [v3] at u3
      rw [v2] at u5
      obtain ⟨x9, t9, y1, y2, y3, y4, y5⟩ := hor.1 j hj
      rw [c1] at y4
      rw [y1] at u1
      rw [y2] at u3
      have ex := inj (by omega) (by omega) u1
      have et := inj (by omega) (by omega) u3
      subst ex et
      refine (hout t9 y4).mpr ?_
      have hx9 := (hout x9 (by omega)).mp u4
      rcases u5 with u5 | ⟨y, z1, z2, z3⟩
      · exact (hcl.2.2 x9 t9 (by omega) y4).1 ((hru _ _ _).mp ⟨j, hj, y1, u5, y2⟩) hx9
      · have hy := lowo y z3
        exact (hcl.2.2 x9 t9 (by omega) y4).2 y hy ((hru _ _ _).mp ⟨j, hj, y1, z2, y2⟩) hx9 ((hout y hy).mp z3))
    rw [← bout] at hp7
    exact hp7
  · -- what waits for a member lies before it
    rw [r12] at hf hx
    rw [r35] at hp
    rw [bsame 36 (by omega)] at h36
    rw [bsame 41 (by omega)] at h41
    rcases wh q hq with ⟨z, w, -⟩ | ⟨-, -, w, -⟩ | ⟨-, w, -⟩
    · rw [w] at h27
      have hxe := inj (by omega) (by omega) h27
      subst z
      exfalso
      rcases use p f hp h39 hf with ⟨u1, u2⟩ | ⟨u1, u2, l, u3, u4, u5⟩
      · have := hF1 q (e - 1) p f hq b27 (by omega) hp h36 h41 u1 (by omega)
        omega
      · have g1 := (hPT.2.2.1 a ba bk hra)
        rw [h36] at u4
        have : l = a := hPT.2.1.2 l a u3 ba (by rw [u4, g1.1, bo]) (by rw [u4]; exact nI_ne1 (by omega))
        rw [this, g1.2.1] at u5; cases u5
    · rw [w] at h27; exact absurd h27.symm (nI_ne1 (by omega))
    · rw [w] at h27
      have hxe := atl q x hq h27 (by omega)
      rcases use p f hp h39 hf with ⟨u1, u2⟩ | ⟨u1, u2, -⟩
      · exact hF1 q x p f hq h27 (by omega) hp h36 h41 u1 (by omega)
      · omega
  · -- who committed is past it
    rw [r12] at h2 ⊢
    rw [r35]
    have wait : ∀ p g, p < R.1 35 → R7.2 36 p = nI q → R7.2 41 p = 0 → R7.2 39 p = nI g → g < e + 1 → (∀ p9 g9, p9 < R.1 35 → R.2 36 p9 = nI q → R.2 41 p9 = 0 → R.2 39 p9 = nI g9 → g9 < R.1 12 → f ≤ g9) → f ≤ g := fun p g hp h36 h41 h39 hg hall => by
      rw [bsame 36 (by omega)] at h36
      rw [bsame 41 (by omega)] at h41
      rcases use p g hp h39 hg with ⟨u1, u2⟩ | ⟨u1, u2, -⟩
      · exact hall p g hp h36 h41 u1 (by omega)
      · omega
    by_cases z : f = e
    · subst z
      rw [b15] at h15
      have hca := inj (by omega) (by omega) h15
      subst hca
      rw [show ow R7 (f - 1) a = ow R (f - 1) a from rof_ow brof (by omega) ba, bo] at ho
      have hqm := inj (by omega) (by omega) ho
      subst hqm
      exact Or.inl ⟨f, Nat.le_refl _, by omega, bm27⟩
    · rw [ints f 15 z (by decide) (by decide)] at h15
      rw [show ow R7 (f - 1) c = ow R (f - 1) c from rof_ow brof (by omega) hc] at ho
      have h9 := hF2 f c q h1 (by omega) hc hq h15 ho
      rcases wh q hq with ⟨z9, w, -⟩ | ⟨-, w9, w, -⟩ | ⟨-, w, -⟩
      · exact Or.inl ⟨e, by omega, by omega, w⟩
      · refine Or.inr ⟨w, fun p g hp h36 h41 h39 hg => wait p g hp h36 h41 h39 hg (fun p9 g9 hp9 h369 h419 h399 hg9 => ?_)⟩
        have := hF1 q (e - 1) p9 g9 hq w9 (by omega) hp9 h369 h419 h399 hg9
        omega
      · rcases h9 with ⟨x, x1, x2, x3⟩ | ⟨x1, x2⟩
        · exact Or.inl ⟨x, x1, by omega, by rw [w]; exact x3⟩
        · exact Or.inr ⟨by rw [w]; exact x1, fun p g hp h36 h41 h39 hg => wait p g hp h36 h41 h39 hg x2⟩
