/-! the ADDs, one after another -/
def AD (S : SC) (R : SR) (S1 : SC) (T1 : SR) (e a D : Nat) : Prop :=
  M2 S R S1 T1 e a D ∧
  (∀ p, p < R.1 35 → S1.2.1 14 p = T1.2 39 p ∧ (T1.2 39 p ≠ -1 → S1.2.1 15 p = T1.2 40 p) ∧ ((T1.2 39 p = R.2 39 p ∧ T1.2 40 p = R.2 40 p) ∨ (R.2 39 p = -1 ∧ T1.2 39 p = nI e ∧ ∃ l, l < 16 ∧ T1.2 40 p = nI l ∧ ow T1 e l = R.2 36 p ∧ rK T1 e (2 * l) = R.2 38 p ∧ tb (T1.2 19 e) l = true))) ∧
  (∀ v, v < 31 → rK T1 e v ≠ -1 → rK T1 e v = rK R (e - 1) v ∨ (∃ l j, v = 2 * l ∧ l < 16 ∧ j < R.1 42 ∧ R.2 43 j = 2 ∧ lfp R j = l ∧ rK T1 e v = R.2 45 j) ∨ ∃ l p, v = 2 * l ∧ l < 16 ∧ p < R.1 35 ∧ T1.2 39 p = nI e ∧ T1.2 40 p = nI l ∧ rK T1 e v = R.2 38 p)
theorem hasl_iff {S : SC} {x : Int32} : hasl S x = true ↔ ∃ l, l < 16 ∧ S.2.1 20 l = x := by
  unfold hasl
  rw [List.any_eq_true]
  constructor
  · rintro ⟨l, h1, h2⟩; exact ⟨l, List.mem_range.mp h1, by simpa using h2⟩
  · rintro ⟨l, h1, h2⟩; exact ⟨l, List.mem_range.mpr h1, by simpa using h2⟩
theorem lfo_iff {T : SR} {e D : Nat} {x : Int32} : lfo T e D x = true ↔ ∃ l, l < 2 ^ D ∧ ow T e l = x := by
  unfold lfo ow
  rw [List.any_eq_true]
  constructor
  · rintro ⟨l, h1, h2⟩; exact ⟨l, List.mem_range.mp h1, by simpa using h2⟩
  · rintro ⟨l, h1, h2⟩; exact ⟨l, List.mem_range.mpr h1, by simpa using h2⟩
theorem ad_step {S : SC} {R : SR} {e m a D0 : Nat} (h : CH S R e m a D0) {S1 : SC} {T1 C4 : SR} {D i : Nat} (hA : AD S R S1 T1 e a D) (hi : i < R.1 42) (hP60 : R.1 35 ≤ 60) (hS : ∀ c, c = 11 ∨ c = 13 ∨ c = 17 ∨ c = 18 → S1.2.1 c = S.2.1 c) (hT : ∀ f, f = 27 ∨ f = 28 ∨ f = 36 ∨ f = 38 ∨ f = 43 ∨ f = 45 → T1.2 f = R.2 f) (hC : C4.2 45 = R.2 45 ∧ C4.2 36 = R.2 36) : ∃ D2, AD S R (if adQ S1 i then adS S1 e (S1.2.1 18 i).toNatClampNeg else S1) (al1 C4 T1 e i) e a D2 := by
  obtain ⟨⟨he1, he60, hsE, hE, hm, ha, hQ, hP⟩, -, -, -, -, -, hmb, -, hpr, hpk⟩ := h
  obtain ⟨⟨⟨tD, t13, tR⟩, ⟨t7, t8, t9⟩, tO, hPT, hmv, hra, hrof⟩, hpq, hor⟩ := hA
  have hD4 := hPT.1.1
  have hOI := hPT.2.1
  have s17 : S1.2.1 17 i = R.2 43 i := by rw [hS 17 (by omega)]; exact (hpr i hi).1
  have dpT : dp T1 e = D := by unfold dp; rw [t13]; exact nI_clamp (by omega)
  unfold al1
  rw [dpT]
  by_cases hk : R.2 43 i = 0
  · obtain ⟨p, hp, hpp⟩ := (hpr i hi).2.2.2.2.2.2 hk
    obtain ⟨p1, -, p3, p4, ⟨q, hq16, p5⟩, p6, p7, -⟩ := hpk p hp
    have e18 : S1.2.1 18 i = nI p := by rw [hS 18 (by omega), (hpr i hi).2.2.2.1 (by rw [hk]; decide)]; exact hpp
    have hcl : (S1.2.1 18 i).toNatClampNeg = p := by rw [e18]; exact nI_clamp (by omega)
    have hap : alp C4 i = p := by unfold alp; rw [hC.1, hpp]; exact nI_clamp (by omega)
    have ham : alm C4 i = q := by unfold alm; rw [hap, hC.2, p5]; exact nI_clamp (by omega)
    rw [hap, ham]
    have s11 : S1.2.1 11 p = nI q := by rw [hS 11 (by omega), p1]; exact p5
    have s13 : S1.2.1 13 p = R.2 38 p := by rw [hS 13 (by omega)]; exact p3
    have owq : ∀ l, l < 16 → 2 ^ D ≤ l → ow T1 e l = -1 := fun l hl h9 => by
      refine ((hOI.1 l hl).1).mpr ((hPT.1.2 (2 * l) (by omega)).1 ?_)
      have := tW_lf D hD4 l hl
      by_cases h8 : 2 * l < tW D
      · exact absurd (this.mp h8) (by omega)
      · omega
    have hleaf : hasl S1 (nI q) = lfo T1 e D (nI q) := by
      rw [Bool.eq_iff_iff, hasl_iff, lfo_iff]
      constructor
      · rintro ⟨l, h1, h2⟩
        rw [tO l h1] at h2
        refine ⟨l, ?_, h2⟩
        by_cases h9 : l < 2 ^ D
        · exact h9
        · rw [owq l h1 (by omega)] at h2; exact absurd h2.symm (nI_ne1 (by omega))
      · rintro ⟨l, h1, h2⟩
        have := p2D hD4
        exact ⟨l, by omega, by rw [tO l (by omega)]; exact h2⟩
    have hep : (S1.2.1 0 q = -1) ↔ (R.2 27 q = -1 ∨ (R.2 27 q = nI (e - 1) ∧ ¬ T1.2 17 e &&& bitN (R.2 28 q).toNatClampNeg = 0)) := by
      by_cases hl : R.2 27 q = nI (e - 1) ∧ ¬ T1.2 17 e &&& bitN (R.2 28 q).toNatClampNeg = 0
      · have h9 := congrArg (·.1) ((hmv q hq16).1 hl)
        have h8 : S1.2.1 0 q = -1 := h9
        simp [h8, hl]
      · have h9 := congrArg (·.1) ((hmv q hq16).2 hl)
        have h8 : S1.2.1 0 q = S.2.1 0 q := h9
        rw [h8, (hmb q hq16).1]
        exact ⟨Or.inl, fun h => h.elim id (fun h => absurd h hl)⟩
    have hmba : mba S1 p = mbR T1 e D p q := by
      unfold mba mbR
      rw [s11, nI_clamp (by omega), hleaf, (hpq p hp).1, hT 27 (by omega), hT 28 (by omega)]
      rw [Bool.eq_iff_iff]
      simp only [Bool.and_eq_true, Bool.or_eq_true, decide_eq_true_eq, Bool.not_eq_true']
      rw [hep]
      constructor
      · rintro ⟨⟨h1, h2⟩, h3⟩; exact ⟨⟨h1, h3⟩, h2⟩
      · rintro ⟨⟨h1, h3⟩, h2⟩; exact ⟨⟨h1, h2⟩, h3⟩
    have hfb : fbl D (S1.2.2 2 e) = fbl D (rK T1 e) := fbl_c (fun j hj => (tR (2 * j) (by have := p2D hD4; omega)).1)
    by_cases hmb9 : mbR T1 e D p q = true
    · have hadQ : adQ S1 i := ⟨by rw [s17]; exact hk, by rw [hcl, hmba]; exact hmb9⟩
      rw [if_pos hadQ, hcl]
      by_cases h16 : fbl D (rK T1 e) = 16
      · -- full
        have h9 : ¬ aaQ T1 e D p q i := fun h => h.2.2 h16
        rw [if_neg h9]
        have hle := fbl_le D (rK T1 e)
        have hp2 := p2D hD4
        have hD : D = 4 := by
          by_cases hx : D = 4
          · exact hx
          · have : 2 ^ D ≤ 2 ^ 3 := Nat.pow_le_pow_right (by decide) (by omega)
            omega
        have : adS S1 e p = S1 := by
          unfold adS
          rw [tD, hfb, h16, hD, if_neg (by decide), if_neg (by decide)]
        rw [this]
        exact ⟨D, ⟨⟨tD, t13, tR⟩, ⟨t7, t8, t9⟩, tO, hPT, hmv, hra, hrof⟩, hpq, hor⟩
      · have h9 : aaQ T1 e D p q i := ⟨by rw [hT 43 (by omega)]; exact hk, hmb9, h16⟩
        rw [if_pos h9]
        obtain ⟨b, eb⟩ : ∃ b, b = fbl D (rK T1 e) := ⟨_, rfl⟩
        have hgd := gD_le hD4 h16
        have hle := fbl_le D (rK T1 e)
        rw [← eb] at hgd hle
        have hadS : adS S1 e p = adD S1 e p b (gD b D) := by
          unfold adS
          rw [tD, hfb, ← eb]
          by_cases hb : b < 2 ^ D
          · rw [if_pos hb]; unfold gD; rw [if_neg (by omega)]
          · have hbe : b = 2 ^ D := by omega
            rw [if_neg hb]
            have hd4 : D < 4 := by
              by_cases hx : D = 4
              · subst hx; omega
              · omega
            rw [if_pos hd4]; unfold gD; rw [if_pos hbe, hbe]
        rw [hadS, ← eb]
        obtain ⟨k1, k2, k3, k4, k5, k6, k7, k8⟩ := aa1_K T1 e p b D hgd.2 hgd.1
        obtain ⟨c1, c2, c3, c4, c5, c6, c7, c8, -⟩ := adD_K S1 e p b (gD b D)
        have af := aa1_f T1 e p b D
        have aq9 := aq_adD S1 e p b (gD b D)
        obtain ⟨T2, eT2⟩ : ∃ T2, T2 = aa1 T1 e p b D := ⟨_, rfl⟩
        obtain ⟨S2, eS2⟩ : ∃ S2, S2 = adD S1 e p b (gD b D) := ⟨_, rfl⟩
        have t213 : T2.2 13 e = nI (gD b D) := by rw [eT2]; exact aa1_13 t13
        rw [← eT2] at k1 k2 k3 k4 k5 k6 k7 k8 af ⊢
        rw [← eS2] at c1 c2 c3 c4 c5 c6 c7 c8 aq9 ⊢
        have hkb : rK T1 e (2 * b) = -1 := by
          by_cases hb : b < 2 ^ D
          · rw [eb] at hb ⊢; exact fbl_sp hb
          · refine (hPT.1.2 (2 * b) (by have := hgd.2; omega)).1 ?_
            have := tW_lf D hD4 b hgd.2
            by_cases h8 : 2 * b < tW D
            · exact absurd (this.mp h8) hb
            · omega
        rw [hT 38 (by omega)] at k2 k3
        rw [hT 36 (by omega)] at k5
        rw [s13] at c2 c4
        have kK : ∀ v, rK T2 e v = if v = 2 * b then R.2 38 p else rK T1 e v := fun v => by rw [k2]; rfl
        have t217 : T2.2 17 e = T1.2 17 e := by rw [af.2 17 (by decide) (by decide) (by decide) (by decide) (by decide) (by decide) (by decide) (by decide)]
        have t218 : T2.2 18 e = T1.2 18 e := by rw [af.2 18 (by decide) (by decide) (by decide) (by decide) (by decide) (by decide) (by decide) (by decide)]
        have t219 : T2.2 19 e = T1.2 19 e ||| bitN b := by rw [k6]; simp [upd]
        have hno : ∀ l, l < 16 → ow T1 e l ≠ nI q := fun l hl h8 => by
          have h7 : lfo T1 e D (nI q) = true := by
            rw [← hleaf, hasl_iff]; exact ⟨l, hl, by rw [tO l hl]; exact h8⟩
          unfold mbR at hmb9
          rw [h7] at hmb9
          simp at hmb9
        refine ⟨gD b D, ⟨⟨c1, t213, fun v hv => ?_⟩, ⟨?_, ?_, ?_⟩, fun l hl => ?_, ?_, fun q9 hq9 => ?_, by rw [t217]; exact hra, hrof.trans k1⟩, fun p9 hp9 => ?_, fun v hv hk9 => ?_⟩
        · obtain ⟨g1, g2, g3⟩ := tR v hv
          have c4v := c4 v
          have k3v := k3 v hv
          by_cases e9 : v = 2 * b
          · have h7 : pq b (gD b D) v = false := pq_odd hgd.2 hgd.1 hv (by omega)
            rw [h7] at c4v k3v
            rw [c2, c3, c4v, k3v, k4 v, kK v]
            simp [upd, e9, p6]
          · have u1 : upd (S1.2.2 2 e) (2 * b) (R.2 38 p) v = rK T1 e v := by simp [upd, e9, g1]
            have u2 : upd (rK T1 e) (2 * b) (R.2 38 p) v = rK T1 e v := by simp [upd, e9]
            have u3 : upd (S1.2.2 4 e) (2 * b) 0 v = rU T1 e v := by simp [upd, e9, g2]
            have u4 : upd (S1.2.2 3 e) (2 * b) (nI e) v = S1.2.2 3 e v := by simp [upd, e9]
            rw [u1, u3] at c4v
            rw [u2, if_neg e9] at k3v
            rw [c2, c3, c4v, k3v, k4 v, kK v, u1, u4, if_neg e9, if_neg e9]
            exact ⟨rfl, rfl, g3⟩
        · rw [t217, aq9.2.2.1 7 (by decide) (by decide) (by decide) (by decide)]; exact t7
        · rw [t218, aq9.2.2.1 8 (by decide) (by decide) (by decide) (by decide)]; exact t8
        · rw [t219, c6, t9]
        · rw [c5, k5, s11, p5, tO l hl]
        · rw [t217, t218, t219]
          rw [eb]
          refine PT_ad (k := R.2 38 p) hPT hq16 p6 h16 hno (fun v hv => ⟨?_, ?_⟩) (fun l hl => ?_)
          · rw [← eb]; exact kK v
          · rw [← eb, k3 v hv, k2]
          · rw [← eb, k5, p5]
        · have : mv S2 q9 = mv S1 q9 := by
            simp only [mv]
            rw [aq9.2.1, aq9.2.2.1 0 (by decide) (by decide) (by decide) (by decide), aq9.2.2.1 1 (by decide) (by decide) (by decide) (by decide), aq9.2.2.1 2 (by decide) (by decide) (by decide) (by decide), aq9.2.2.1 3 (by decide) (by decide) (by decide) (by decide), aq9.2.2.2 0 (by decide), aq9.2.2.2 1 (by decide)]
          rw [this, t217]; exact hmv q9 hq9
        · obtain ⟨g1, g2, g3⟩ := hpq p9 hp9
          rw [c7, c8, k7, k8]
          simp only [upd]
          by_cases e9 : p9 = p
          · subst e9
            have hun : T1.2 39 p9 = -1 := by
              unfold mbR at hmb9
              simp only [Bool.and_eq_true, decide_eq_true_eq] at hmb9
              exact hmb9.1.1
            have hR39 : R.2 39 p9 = -1 := by
              rcases g3 with g3 | g3
              · rw [← g3.1]; exact hun
              · exact g3.1
            simp only [if_true]
            refine ⟨by first | rfl | trivial, fun _ => by first | rfl | trivial, Or.inr ⟨hR39, by first | rfl | trivial, b, hgd.2, by first | rfl | trivial, ?_, ?_, ?_⟩⟩
            · rw [k5, if_pos rfl]
            · rw [kK, if_pos rfl]
            · rw [t219, tb_or, tb_bit (by have := hgd.2; omega) (by have := hgd.2; omega)]; simp
          · rw [if_neg e9, if_neg e9, if_neg e9, if_neg e9]
            refine ⟨g1, g2, g3.imp id (fun ⟨h1, h2, l, h3, h4, h5, h6, h7⟩ => ⟨h1, h2, l, h3, h4, ?_, ?_, ?_⟩)⟩
            · rw [k5, if_neg (fun h8 => ?_)]
              · exact h5
              · rw [h8] at h6
                rw [hkb] at h6
                exact absurd h6.symm (hpk p9 hp9).2.2.2.2.2.1
            · rw [kK, if_neg (fun h8 => ?_)]
              · exact h6
              · have : l = b := by omega
                rw [this, hkb] at h6
                exact absurd h6.symm (hpk p9 hp9).2.2.2.2.2.1
            · rw [t219, tb_or, h7]; rfl
        · rw [kK] at hk9 ⊢
          by_cases e9 : v = 2 * b
          · rw [if_pos e9]
            refine Or.inr (Or.inr ⟨b, p, e9, hgd.2, hp, ?_, ?_, rfl⟩)
            · rw [k7]; simp [upd]
            · rw [k8]; simp [upd]
          · rw [if_neg e9] at hk9 ⊢
            rcases hor v hv hk9 with h8 | h8 | ⟨l, p9, h1, h2, h3, h4, h5, h6⟩
            · exact Or.inl h8
            · exact Or.inr (Or.inl h8)
            · have hne : p9 ≠ p := fun h7 => by
                rw [h7] at h4
                unfold mbR at hmb9
                simp only [Bool.and_eq_true, decide_eq_true_eq] at hmb9
                rw [hmb9.1.1] at h4
                exact absurd h4.symm (nI_ne1 (by omega))
              refine Or.inr (Or.inr ⟨l, p9, h1, h2, h3, ?_, ?_, h6⟩)
              · rw [k7]; simp [upd, hne, h4]
              · rw [k8]; simp [upd, hne, h5]
    · have hadQ : ¬ adQ S1 i := fun h => hmb9 (by rw [← hmba, ← hcl]; exact h.2)
      rw [if_neg hadQ, if_neg (fun h => hmb9 h.2.1)]
      exact ⟨D, ⟨⟨tD, t13, tR⟩, ⟨t7, t8, t9⟩, tO, hPT, hmv, hra, hrof⟩, hpq, hor⟩
  · have hadQ : ¬ adQ S1 i := fun h => hk (by rw [← s17]; exact h.1)
    rw [if_neg hadQ, if_neg (fun h => hk (by rw [← hT 43 (by omega)]; exact h.1))]
    exact ⟨D, ⟨⟨tD, t13, tR⟩, ⟨t7, t8, t9⟩, tO, hPT, hmv, hra, hrof⟩, hpq, hor⟩
theorem cm_add {S : SC} {R : SR} {e m a D0 : Nat} (h : CH S R e m a D0) (hP60 : R.1 35 ≤ 60) : ∃ D, AD S R (cm3 S m) (ch5 R e a D0) e a D := by
  obtain ⟨D, hM, h19, hor⟩ := cm_mid h
  have h0 := h
  obtain ⟨⟨he1, he60, hsE, hE, hm, ha, hQ, hP⟩, -, -, -, -, -, hmb, -, hpr, hpk⟩ := h
  have c4f := ch4_f R e a D0
  have e3 : cm3 S m = adL (cm2 S m) e (R.1 42) := by unfold cm3; rw [hsE, hQ]
  have e5 : ch5 R e a D0 = alR (ch4 R e a D0) e (R.1 42) := rfl
  rw [e3, e5]
  -- fields of cm2
  have c2q : ∀ c, 11 ≤ c → c ≠ 20 → (cm2 S m).2.1 c = S.2.1 c := fun c h1 h2 => by
    have hu := uq_upL (cm1 S m) (sE S) (sQ S)
    have hq := rq_rmL (cm0 S m) (sE S) (sQ (cm0 S m))
    have x1 : (cm2 S m).2.1 c = (cm1 S m).2.1 c := hu.2.1 c (by omega)
    have x2 : (cm1 S m).2.1 c = (rmL (cm0 S m) (sE S) (sQ (cm0 S m))).2.1 c := rfl
    rw [x1, x2, hq.2.2 c (by omega) (by omega) h2]
    funext i
    simp only [cm0, nwS]
    rw [if_neg (by omega)]
  have key : ∀ i, i ≤ R.1 42 → (∃ D, AD S R (adL (cm2 S m) e i) (alR (ch4 R e a D0) e i) e a D) := by
    intro i
    induction i with
    | zero =>
      intro _
      refine ⟨D, hM, fun p hp => ?_, fun v hv hk => ?_⟩
      · show (cm2 S m).2.1 14 p = (ch4 R e a D0).2 39 p ∧ ((ch4 R e a D0).2 39 p ≠ -1 → (cm2 S m).2.1 15 p = (ch4 R e a D0).2 40 p) ∧ (((ch4 R e a D0).2 39 p = R.2 39 p ∧ (ch4 R e a D0).2 40 p = R.2 40 p) ∨ _)
        rw [c4f.2.1 39 (by decide) (by decide) (by decide) (by decide) (by decide) (by decide) (by decide) (by decide) (by decide) (by decide), c4f.2.1 40 (by decide) (by decide) (by decide) (by decide) (by decide) (by decide) (by decide) (by decide) (by decide) (by decide), c2q 14 (by decide) (by decide), c2q 15 (by decide) (by decide)]
        exact ⟨(hpk p hp).2.2.2.1, (hpk p hp).2.2.2.2.2.2.2, Or.inl ⟨rfl, rfl⟩⟩
      · exact (hor v hv hk).imp id Or.inl
    | succ i ih =>
      intro hi
      obtain ⟨D1, h1⟩ := ih (by omega)
      have aqx := aq_adL (cm2 S m) e i
      have alx := alR_f (ch4 R e a D0) e i
      exact ad_step h0 h1 (by omega) hP60 (fun c hc => by rw [aqx.2.2.1 c (by omega) (by omega) (by omega) (by omega)]; exact c2q c (by omega) (by omega)) (fun f hf => by rw [alx.2 f (by omega) (by omega) (by omega) (by omega) (by omega) (by omega) (by omega) (by omega)]; exact c4f.2.1 f (by omega) (by omega) (by omega) (by omega) (by omega) (by omega) (by omega) (by omega) (by omega) (by omega)) ⟨c4f.2.1 45 (by decide) (by decide) (by decide) (by decide) (by decide) (by decide) (by decide) (by decide) (by decide) (by decide), c4f.2.1 36 (by decide) (by decide) (by decide) (by decide) (by decide) (by decide) (by decide) (by decide) (by decide) (by decide)⟩
  exact key (R.1 42) (Nat.le_refl _)
