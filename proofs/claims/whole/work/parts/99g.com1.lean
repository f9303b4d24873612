/-! A COMMIT, from J -/
theorem j_CH {S : SC} {R : SR} (h : J S R) {m : Nat} (hm : m < 16) (hE : R.1 12 < 60) (hl : R.2 27 m = nI (R.1 12 - 1)) : ∃ a D0, CH S R (R.1 12) m a D0 ∧ rK R (R.1 12 - 1) (2 * a) ≠ -1 ∧ ow R (R.1 12 - 1) a = nI m := by
  obtain ⟨⟨⟨n1, n2, n3⟩, ⟨p1, p2⟩, ⟨q1, q2⟩, ⟨c1, c2, c3⟩, -, -⟩, hZ, hX, ⟨hT, hO⟩, hM, ⟨hK, -⟩, ⟨hP, -⟩, ⟨ρ, -, -, -, hL4, -⟩, -⟩ := h
  obtain ⟨e, ee⟩ : ∃ e, e = R.1 12 := ⟨_, rfl⟩
  obtain ⟨D0, hTE, hTI, hOI, -, -⟩ := hT (R.1 12 - 1) (by omega)
  have hin : ∀ q, q < 16 → R.2 27 q = nI (R.1 12 - 1) → ∃ l, l < 16 ∧ R.2 28 q = nI l ∧ ow R (R.1 12 - 1) l = nI q := fun q hq h27 => by
    rcases (hM q hq).2 with h9 | ⟨f, l, h1, h2, h3, h4, h5, -⟩
    · rw [h9.1] at h27; exact absurd h27.symm (nI_ne1 (by omega))
    · rw [h1] at h27
      have := (nI_eq (by omega) (by omega)).mp h27
      subst this
      exact ⟨l, h3, h4, h5⟩
  obtain ⟨a, ha, ha28, hao⟩ := hin m hm hl
  have hk : rK R (R.1 12 - 1) (2 * a) ≠ -1 := fun h9 => by
    have := ((hOI.1 a ha).1).mpr h9
    rw [hao] at this
    exact absurd this (nI_ne1 (by omega))
  refine ⟨a, D0, ⟨⟨n2, hE, n1, rfl, hm, ha, q1, p1⟩, hZ.1 _ (Nat.le_refl _) hE, hTE, hO, hTI, hOI, fun q hq => ⟨(hM q hq).1.1, (hM q hq).1.2.1, hin q hq⟩, ⟨hl, ha28⟩, fun i hi => ?_, fun p hp => ?_⟩, hk, hao⟩
  · obtain ⟨g1, ⟨q, g2, g3, g4, g5⟩, g6, g7, g8, g9, g10⟩ := hP i hi
    refine ⟨g1, ⟨q, g2, g3, g4⟩, g6, g7, fun h2 => ⟨(g8 h2).1, (g8 h2).2, ?_⟩, g9, g10⟩
    obtain ⟨k, hk1, hk2⟩ := g5 h2
    obtain ⟨u, hu1, hu2, -⟩ := hL4 q k g2 hk1
    rw [hk2, hu2]; exact nI_ne1 (by omega)
  · obtain ⟨⟨g1, g2, g3, g4, -⟩, g5, ⟨f, g6, g7, g8⟩, -, g9⟩ := hK p hp
    refine ⟨g1, g2, g3, g4, g5, by rw [g8]; exact nI_ne1 (by omega), ?_, ?_⟩
    · rcases g9 with g9 | ⟨f9, l, w1, w2, w3, -⟩
      · rw [g9.1]; exact fun h9 => nI_ne1 (by omega) h9.symm
      · rw [w3]; exact fun h9 => by have := (nI_eq (by omega) (by omega)).mp h9; omega
    · intro hne
      rcases g9 with g9 | ⟨f9, l, w1, w2, w3, w4, w5, w6, -⟩
      · exact absurd g9.1 hne
      · rw [w5, w6]
theorem cm3_f (S : SC) (m : Nat) : (cm3 S m).1 0 = S.1 0 ∧ (∀ c, 11 ≤ c → c ≠ 14 → c ≠ 15 → c ≠ 20 → (cm3 S m).2.1 c = S.2.1 c) ∧ (cm3 S m).2.1 6 (sE S) = 0 ∧ (cm3 S m).2.1 10 (sE S) = 0 ∧ (cm3 S m).2.1 4 (sE S) = S.2.1 1 m := by
  have ha := aq_adL (cm2 S m) (sE S) (sQ S)
  have hu := uq_upL (cm1 S m) (sE S) (sQ S)
  have hq := rq_rmL (cm0 S m) (sE S) (sQ (cm0 S m))
  have e3 : cm3 S m = adL (cm2 S m) (sE S) (sQ S) := rfl
  have e2 : cm2 S m = upL (cm1 S m) (sE S) (sQ S) := rfl
  rw [← e3] at ha
  rw [← e2] at hu
  have e10 : (cm1 S m).1 0 = (rmL (cm0 S m) (sE S) (sQ (cm0 S m))).1 0 := by
    funext b; simp [cm1, rmS, shS, dpS, stN, trS, st2]
  have e1c : ∀ c, (cm1 S m).2.1 c = (rmL (cm0 S m) (sE S) (sQ (cm0 S m))).2.1 c := fun c => rfl
  have e00 : (cm0 S m).1 0 = S.1 0 := by funext b; simp [cm0, nwS]
  have key : ∀ c, 4 ≤ c → c ≠ 7 → c ≠ 8 → c ≠ 9 → c ≠ 14 → c ≠ 15 → c ≠ 20 → (cm3 S m).2.1 c = (cm0 S m).2.1 c := fun c k0 k1 k2 k3 k4 k5 k6 => by
    rw [ha.2.2.1 c k3 k4 k5 k6, hu.2.1 c k2, e1c, hq.2.2 c k0 k1 k6]
  refine ⟨?_, fun c k1 k2 k3 k4 => ?_, ?_, ?_, ?_⟩
  · rw [ha.1, show (cm2 S m).1 0 = (cm1 S m).1 0 by rw [hu.1], e10, hq.1, e00]
  · rw [key c (by omega) (by omega) (by omega) (by omega) k2 k3 k4]
    funext i; simp only [cm0, nwS]; rw [if_neg (by omega)]
  · rw [key 6 (by decide) (by decide) (by decide) (by decide) (by decide) (by decide) (by decide)]; simp [cm0, nwS]
  · rw [key 10 (by decide) (by decide) (by decide) (by decide) (by decide) (by decide) (by decide)]; simp [cm0, nwS]
  · rw [key 4 (by decide) (by decide) (by decide) (by decide) (by decide) (by decide) (by decide)]; simp [cm0, nwS]
theorem ucn_le (F : Nat → Int32) : ∀ n, ucn F n ≤ n := by
  intro n
  induction n with
  | zero => exact Nat.le_refl _
  | succ n ih =>
    simp only [ucn]
    by_cases h : F n = -1
    · rw [if_pos h]; omega
    · rw [if_neg h]; omega
theorem j_PH {S : SC} {R : SR} (h : J S R) {m a D0 : Nat} (hC : CH S R (R.1 12) m a D0) (hk : rK R (R.1 12 - 1) (2 * a) ≠ -1) (x : Int32) : ∃ D, AD S R (cm3 S m) (ch5 R (R.1 12) a D0) (R.1 12) a D ∧ PH (cm3 S m) (ch6 R (R.1 12) a D0 x) (R.1 12) a D (R.1 1) ∧ ((cmp (cm3 S m) (R.1 12) x) ↔ chp (ch5 R (R.1 12) a D0) (R.1 12) x) ∧ dp (ch5 R (R.1 12) a D0) (R.1 12) = D := by
  obtain ⟨⟨⟨n1, n2, n3⟩, ⟨p1, p2⟩, ⟨q1, q2⟩, ⟨c1, c2, c3⟩, c4, c5⟩, -, hX, ⟨hT, hO⟩, hM, ⟨hK, -⟩, ⟨hP, -⟩, ⟨ρ, -, -, -, hL4, -⟩, ⟨w1, w2, -⟩, ⟨hru, hor, -⟩, -⟩ := h
  obtain ⟨D, hA⟩ := cm_add hC p2
  obtain ⟨⟨-, he60, hsE, -, hm, ha, -, -⟩, ⟨z16, -, -, -, z20⟩, -, -, hTI, -⟩ := hC
  obtain ⟨e, ee⟩ : ∃ e, e = R.1 12 := ⟨_, rfl⟩
  rw [← ee] at hA hk he60 hsE z16 z20 ⊢
  have hA0 := hA
  obtain ⟨⟨⟨tD, t13, tR⟩, ⟨t7, t8, t9⟩, tO, hPT, hmv, hra, hrof⟩, hpq, hor9⟩ := hA
  have hD4 := hPT.1.1
  have f5 := ch5_f R e a D0 hTI.1
  have f3 := cm3_f S m
  rw [hsE] at f3
  obtain ⟨T5, eT5⟩ : ∃ T5, T5 = ch5 R e a D0 := ⟨_, rfl⟩
  obtain ⟨T6, eT6⟩ : ∃ T6, T6 = ch6 R e a D0 x := ⟨_, rfl⟩
  have e6 : ∀ f, f ≠ 21 → T6.2 f = T5.2 f := fun f hf => by rw [eT6, eT5]; simp [ch6, ra, hf]
  have e61 : T6.1 = R.1 := by rw [eT6]; exact f5.1
  rw [← eT5] at tR t13 t7 t8 t9 tO hPT hra hpq hor9 f5 hA0 ⊢
  rw [← eT6]
  have kK : rK T6 e = rK T5 e := by funext v; simp only [rK]; rw [e6 22 (by decide)]
  have kU : rU T6 e = rU T5 e := by funext v; simp only [rU]; rw [e6 23 (by decide)]
  have hsv := hPT.2.2.1 a ha hk hra
  have haD : a < 2 ^ D := by
    by_cases h9 : 2 * a < tW D
    · exact (tW_lf D hD4 a ha).mp h9
    · exact absurd ((hPT.1.2 (2 * a) (by omega)).1 (by omega)) hsv.2.2.1
  have hdp : dp T5 e = D := by unfold dp; rw [t13]; exact nI_clamp (by omega)
  have hu := ucn_le (R.2 39) (R.1 35)
  refine ⟨D, hA0, ⟨⟨ha, haD, he60⟩, ?_, ?_, ⟨?_, by rw [e61], by omega⟩, ⟨?_, ?_⟩, ⟨?_, ?_⟩, ?_, fun x9 y9 z9 => ?_, ?_, ?_, ?_, fun v hv => ?_, ⟨?_, fun p hp => ?_⟩, by rw [e61]; exact ee.symm, by omega, by rw [e61]; omega⟩, ?_, hdp⟩
  · exact TE_sm (X := cm3 S m) (Y := T5) ⟨tD, t13, tR⟩ rfl rfl (e6 13 (by decide)) (e6 22 (by decide)) (e6 23 (by decide)) (e6 24 (by decide))
  · rw [kK, kU]; exact hPT.1
  · unfold sN; rw [f3.1]; exact c1
  · rw [e6 19 (by decide)]; exact t9
  · rw [e6 19 (by decide)]; exact hPT.2.2.2.2.2.2
  · rw [f3.2.2.1, e6 16 (by decide), f5.2.1 16 (by decide) (by decide) (by decide) (by decide) (by decide) (by decide) (by decide) (by decide) (by decide) (by decide) (by decide) (by decide) (by decide), z16]
  · rw [e6 16 (by decide), f5.2.1 16 (by decide) (by decide) (by decide) (by decide) (by decide) (by decide) (by decide) (by decide) (by decide) (by decide) (by decide) (by decide) (by decide), z16]
  · rw [f3.2.2.2.1, e6 20 (by decide), f5.2.1 20 (by decide) (by decide) (by decide) (by decide) (by decide) (by decide) (by decide) (by decide) (by decide) (by decide) (by decide) (by decide) (by decide), z20]
  · have g1 : ruC (cm3 S m) x9 y9 z9 ↔ ruC S x9 y9 z9 := ru_same (by unfold sR; rw [f3.1]) (f3.2.1 22 (by decide) (by decide) (by decide) (by decide)) (f3.2.1 23 (by decide) (by decide) (by decide) (by decide)) (f3.2.1 24 (by decide) (by decide) (by decide) (by decide)) x9 y9 z9
    have g2 : ruR T6 x9 y9 z9 ↔ ruR R x9 y9 z9 := ruR_sm (by rw [e61]) (by rw [e61]) (fun f hf => by rw [e6 f (by omega)]; exact f5.2.1 f (by omega) (by omega) (by omega) (by omega) (by omega) (by omega) (by omega) (by omega) (by omega) (by omega) (by omega) (by omega) (by omega)) x9 y9 z9
    rw [g1, g2]; exact hru x9 y9 z9
  · exact ord_same (by unfold sR; rw [f3.1]) (by unfold sN; rw [f3.1]) (f3.2.1 22 (by decide) (by decide) (by decide) (by decide)) (f3.2.1 23 (by decide) (by decide) (by decide) (by decide)) (f3.2.1 24 (by decide) (by decide) (by decide) (by decide)) hor
  · exact wf_sm w1 (by rw [e61]) (by rw [e6 2 (by decide)]; exact f5.2.1 2 (by decide) (by decide) (by decide) (by decide) (by decide) (by decide) (by decide) (by decide) (by decide) (by decide) (by decide) (by decide) (by decide)) (by rw [e6 3 (by decide)]; exact f5.2.1 3 (by decide) (by decide) (by decide) (by decide) (by decide) (by decide) (by decide) (by decide) (by decide) (by decide) (by decide) (by decide) (by decide))
  · exact wfS_sm w2 (by rw [e61]) (by rw [e6 2 (by decide)]; exact f5.2.1 2 (by decide) (by decide) (by decide) (by decide) (by decide) (by decide) (by decide) (by decide) (by decide) (by decide) (by decide) (by decide) (by decide)) (by rw [e6 4 (by decide)]; exact f5.2.1 4 (by decide) (by decide) (by decide) (by decide) (by decide) (by decide) (by decide) (by decide) (by decide) (by decide) (by decide) (by decide) (by decide))
  · rw [kK]
    by_cases hk9 : rK T5 e v = -1
    · exact Or.inl hk9
    · right
      obtain ⟨D9, -, -, -, hkb, -⟩ := hT (R.1 12 - 1) (by omega)
      rw [← ee] at hkb
      rcases hor9 v hv hk9 with h8 | ⟨l, j, -, -, g1, g2, -, g3⟩ | ⟨l, p, -, -, g1, -, -, g2⟩
      · rw [h8] at hk9 ⊢; exact (hkb v hv).resolve_left hk9
      · obtain ⟨-, ⟨q, g4, -, -, g5⟩, -⟩ := hP j g1
        obtain ⟨k, hk1, hk2⟩ := g5 g2
        obtain ⟨u, hu1, hu2, -⟩ := hL4 q k g4 hk1
        exact ⟨u, hu1, by rw [g3, hk2, hu2]⟩
      · obtain ⟨-, -, ⟨f, g4, -, g5⟩, -⟩ := hK p g1
        exact ⟨f + 1, g4, by rw [g2, g5]⟩
  · unfold sP; rw [f3.1, e61]; exact p1
  · rw [e61] at hp
    obtain ⟨g1, g2, -⟩ := hpq p hp
    obtain ⟨⟨g3, g4, g5, g6, -⟩, -, ⟨f, g8, g9, g10⟩, -⟩ := hK p hp
    have h37 : T6.2 37 = R.2 37 := by rw [e6 37 (by decide)]; exact f5.2.1 37 (by decide) (by decide) (by decide) (by decide) (by decide) (by decide) (by decide) (by decide) (by decide) (by decide) (by decide) (by decide) (by decide)
    refine ⟨by rw [e6 39 (by decide)]; exact g1, by rw [h37, f3.2.1 12 (by decide) (by decide) (by decide) (by decide)]; exact g4, ⟨f, by omega, by rw [h37]; exact g9⟩, fun h39 => ?_⟩
    rw [e6 39 (by decide)] at h39
    rw [e6 40 (by decide)]
    refine ⟨g2 (by rw [h39]; exact nI_ne1 (by omega)), ?_⟩
    obtain ⟨-, -, g11⟩ := hpq p hp
    rcases g11 with g11 | ⟨-, -, l, g12, g13, -⟩
    · exfalso
      rw [g11.1] at h39
      rcases (hK p hp).2.2.2.2 with g14 | ⟨f9, l, u1, u2, u3, -⟩
      · rw [g14.1] at h39; exact nI_ne1 (by omega) h39.symm
      · rw [u3] at h39
        have := (nI_eq (by omega) (by omega)).mp h39
        omega
    · exact ⟨l, g12, g13⟩
  · unfold cmp chp
    rw [t7, t8, t9]
