/-! up to the UPDATEs -/
def M2 (S : SC) (R : SR) (S2 : SC) (T2 : SR) (e a D : Nat) : Prop :=
  TE S2 T2 e e D ∧ (S2.2.1 7 e = T2.2 17 e ∧ S2.2.1 8 e = T2.2 18 e ∧ S2.2.1 9 e = T2.2 19 e) ∧ (∀ l, l < 16 → S2.2.1 20 l = ow T2 e l) ∧
  PT (rK R (e - 1)) (rU R (e - 1)) (ow R (e - 1)) (T2.2 17 e) (T2.2 18 e) (T2.2 19 e) D (rK T2 e) (rU T2 e) (ow T2 e) ∧
  (∀ q, q < 16 → (R.2 27 q = nI (e - 1) ∧ ¬ T2.2 17 e &&& bitN (R.2 28 q).toNatClampNeg = 0 → mv S2 q = mvL S q) ∧ (¬ (R.2 27 q = nI (e - 1) ∧ ¬ T2.2 17 e &&& bitN (R.2 28 q).toNatClampNeg = 0) → mv S2 q = mv S q)) ∧
  tb (T2.2 17 e) a = false ∧ rof e R T2
theorem cm_mid {S : SC} {R : SR} {e m a D0 : Nat} (h : CH S R e m a D0) : ∃ D, M2 S R (cm2 S m) (ch4 R e a D0) e a D ∧ (ch4 R e a D0).2 19 e = 0 ∧ ∀ v, v < 31 → rK (ch4 R e a D0) e v ≠ -1 → rK (ch4 R e a D0) e v = rK R (e - 1) v ∨ ∃ l j, v = 2 * l ∧ l < 16 ∧ j < R.1 42 ∧ R.2 43 j = 2 ∧ lfp R j = l ∧ rK (ch4 R e a D0) e v = R.2 45 j := by
  obtain ⟨⟨he1, he60, hsE, hE, hm, ha, hQ, hP⟩, ⟨z16, z17, z18, z19, z20⟩, hTE, hOE, hTI, hOI, hmb, ⟨h27, h28⟩, hpr, hpk⟩ := h
  have hD04 := hTI.1
  obtain ⟨tD, t13, tR⟩ := hTE
  -- the class's new epoch
  obtain ⟨S0, eS0⟩ : ∃ S0, S0 = cm0 S m := ⟨_, rfl⟩
  have s0 : S0 = nwS S e (S.2.1 1 m) := by rw [eS0]; unfold cm0; rw [hsE]
  have s0D : S0.1 2 e = D0 := by rw [s0, ← tD]; simp [nwS]
  have s0K : ∀ c, 2 ≤ c → c ≤ 4 → S0.2.2 c e = S.2.2 c (e - 1) := fun c h1 h2 => by rw [s0]; simp [nwS, h1, h2]
  have s0c : ∀ c i, c < 4 ∨ 10 < c → S0.2.1 c i = S.2.1 c i := fun c i hc => by
    rw [s0]; simp only [nwS]; rw [if_neg (by omega)]
  have s07 : S0.2.1 7 e = 0 := by rw [s0]; simp [nwS]
  have s08 : S0.2.1 8 e = 0 := by rw [s0]; simp [nwS]
  have s09 : S0.2.1 9 e = 0 := by rw [s0]; simp [nwS]
  have s04 : S0.2.1 4 e = nI a := by rw [s0, ← h28, ← (hmb m hm).2.1]; simp [nwS]
  have s00 : S0.1 0 = S.1 0 := by rw [s0]; funext b; simp [nwS]
  have s0m : ∀ q, mv S0 q = mv S q := fun q => by
    rw [s0]; simp [mv, nwS]
  have s0Q : sQ S0 = R.1 42 := by unfold sQ; rw [s00]; exact hQ
  have s0E : sE S0 = e := by unfold sE; rw [s00]; exact hsE
  -- the reference's copy
  obtain ⟨C0, eC0⟩ : ∃ C0, C0 = ch0 R e a D0 := ⟨_, rfl⟩
  obtain ⟨C1, eC1⟩ : ∃ C1, C1 = ch1 R e a D0 := ⟨_, rfl⟩
  obtain ⟨C2, eC2⟩ : ∃ C2, C2 = ch2 R e a D0 := ⟨_, rfl⟩
  have c0f : ∀ f, f ≠ 13 → f ≠ 15 → f ≠ 22 → f ≠ 23 → f ≠ 24 → f ≠ 25 → f ≠ 26 → C0.2 f = R.2 f := fun f k1 k2 k3 k4 k5 k6 k7 => by
    rw [eC0]; simp only [ch0, ra, if_neg k2]; exact (ctR_f R (e - 1) e D0).2 f k1 k3 k4 k5 k6 k7
  have c2f := ch2_f R e a D0
  rw [← eC2] at c2f
  have tkK : ∀ v, v < 31 → tk D0 (rK R (e - 1)) v = rK R (e - 1) v := fun v hv => by
    unfold tk
    by_cases hw : v < tW D0
    · rw [if_pos hw]
    · rw [if_neg hw]; exact ((hTI.2 v hv).1 (by omega)).symm
  have tuU : ∀ v, v < 31 → tu D0 (rU R (e - 1)) v = rU R (e - 1) v := fun v hv => by
    unfold tu
    by_cases hw : v < tW D0
    · rw [if_pos hw]
    · rw [if_neg hw]; exact ((hTI.2 v hv).2.1 ((hTI.2 v hv).1 (by omega))).symm
  have c2K : ∀ v, v < 31 → rK C2 e v = rK R (e - 1) v ∧ rU C2 e v = rU R (e - 1) v ∧ C2.2 24 (31 * e + v) = R.2 24 (31 * (e - 1) + v) := fun v hv => by
    have h9 := ct_K R (e - 1) e D0 v hv
    rw [tkK v hv, tuU v hv] at h9
    rw [eC2]; exact h9
  have c2O : ∀ l, l < 16 → C2.2 26 (16 * e + l) = ow R (e - 1) l := fun l hl => by
    rw [eC2]; exact ct_O R (e - 1) e D0 l hl
  have c213 : C2.2 13 e = nI D0 := by rw [eC2]; exact ch2_13 R e a D0
  -- the masks
  obtain ⟨M, eM⟩ : ∃ M, M = fmM C0 (e - 1) D0 a 0 (R.1 42) := ⟨_, rfl⟩
  have c017 : C0.2 17 e = 0 := by rw [c0f 17 (by decide) (by decide) (by decide) (by decide) (by decide) (by decide) (by decide)]; exact z17
  have c117 : C1.2 17 e = M := by
    rw [eC1, eM, eC0]; unfold ch1; rw [ra_at, ← eC0]; simp only [upd, if_true]; rw [c017]
  have c118 : C1.2 18 e = 0 := by
    rw [eC1]; unfold ch1
    show (ch0 R e a D0).2 18 e = 0
    rw [← eC0, c0f 18 (by decide) (by decide) (by decide) (by decide) (by decide) (by decide) (by decide)]; exact z18
  have c1f : ∀ f, f ≠ 13 → f ≠ 15 → f ≠ 17 → f ≠ 22 → f ≠ 23 → f ≠ 24 → f ≠ 25 → f ≠ 26 → C1.2 f = R.2 f := fun f k1 k2 k0 k3 k4 k5 k6 k7 => by
    rw [eC1]; simp only [ch1, ra, if_neg k0]; rw [← eC0]; exact c0f f k1 k2 k3 k4 k5 k6 k7
  have c43 : C0.2 43 = R.2 43 := c0f 43 (by decide) (by decide) (by decide) (by decide) (by decide) (by decide) (by decide)
  have c45 : C0.2 45 = R.2 45 := c0f 45 (by decide) (by decide) (by decide) (by decide) (by decide) (by decide) (by decide)
  have c22 : ∀ v, v < 31 → C0.2 22 (31 * (e - 1) + v) = rK R (e - 1) v := fun v hv => by
    have h9 := (rof_ct R (e - 1) e D0).1 (31 * (e - 1) + v) (by omega)
    rw [eC0]; exact h9
  have hMb : ∀ l, l < 32 → (tb M l = true ↔ ∃ j, j < R.1 42 ∧ R.2 43 j = 1 ∧ R.2 45 j = nI l ∧ l < 16 ∧ l < 2 ^ D0 ∧ rK R (e - 1) (2 * l) ≠ -1 ∧ l ≠ a) := fun l hl => by
    rw [eM, fm_b C0 (e - 1) D0 a (R.1 42) (fun i hi h9 => by rw [c43] at h9; rw [c45]; exact (hpr i hi).2.2.2.2.2.1 h9) (R.1 42) (Nat.le_refl _) l hl]
    constructor
    · rintro ⟨j, h1, ⟨h2, h3, h4, h5⟩, h6⟩
      rw [c43] at h2
      rw [c45] at h3 h4 h5 h6
      obtain ⟨b, hb, hb2⟩ := (hpr j h1).2.2.2.2.2.1 h2
      rw [h6] at h3 h4 h5
      have : l = b := by rw [← h6, hb2]; exact nI_clamp (by omega)
      subst this
      rw [c22 _ (by omega)] at h4
      exact ⟨j, h1, h2, hb2, hb, h3, h4, h5⟩
    · rintro ⟨j, h1, h2, h3, h4, h5, h6, h7⟩
      have hc : (C0.2 45 j).toNatClampNeg = l := by rw [c45, h3]; exact nI_clamp (by omega)
      refine ⟨j, h1, ⟨by rw [c43]; exact h2, by rw [hc]; exact h5, by rw [hc, c22 _ (by omega)]; exact h6, by rw [hc]; exact h7⟩, hc⟩
  have hMa : tb M a = false := by
    cases hb : tb M a with
    | false => rfl
    | true => obtain ⟨j, -, -, -, -, -, -, h7⟩ := (hMb a (by omega)).mp hb; exact absurd rfl h7
  have hMk : ∀ l, l < 32 → tb M l = true → l < 16 ∧ rK R (e - 1) (2 * l) ≠ -1 := fun l hl hb => by
    obtain ⟨j, h1, h2, h3, h4, h5, h6, h7⟩ := (hMb l hl).mp hb; exact ⟨h4, h6⟩
  -- the class's REMOVEs
  have how9 : ∀ l, l < 16 → S0.2.1 20 l = ow R (e - 1) l := fun l hl => by rw [s0c 20 l (by omega)]; exact hOE l hl
  have hA := rmL_A S0 e D0 hD04 s0D (R.1 42) (fun j hj h9 => by
    rw [s0c 17 j (by omega), (hpr j hj).1] at h9
    obtain ⟨b, hb, hb2⟩ := (hpr j hj).2.2.2.2.2.1 h9
    exact ⟨b, hb, by rw [s0c 18 j (by omega), (hpr j hj).2.2.2.1 (by rw [h9]; decide)]; exact hb2⟩) s07 (fun l hl => by rw [how9 l hl]; exact (hOI.1 l hl).2) (fun l k hl hk h1 h2 => by rw [how9 l hl] at h1 h2; rw [how9 k hk] at h1; exact hOI.2 l k hl hk h1 h2) (R.1 42) (Nat.le_refl _)
  have hq := rq_rmL S0 e (R.1 42)
  obtain ⟨X, eX⟩ : ∃ X, X = rmL S0 e (R.1 42) := ⟨_, rfl⟩
  rw [← eX] at hA hq
  obtain ⟨a1, a2, a3, a4, a5, a6, a7, a8⟩ := hA
  have xM : X.2.1 7 e = M := i32_ext (fun l hl => by
    rw [Bool.eq_iff_iff, a6 l hl, hMb l hl]
    constructor
    · rintro ⟨j, h1, h2, h3, h4, h5, h6, h7⟩
      rw [s0c 17 j (by omega), (hpr j h1).1] at h2
      rw [s0c 18 j (by omega), (hpr j h1).2.2.2.1 (by rw [h2]; decide)] at h3
      rw [s0K 2 (by decide) (by decide), (tR (2 * l) (by omega)).1] at h7
      rw [s04] at h4
      exact ⟨j, h1, h2, h3, h5, (tW_lf D0 hD04 l h5).mp h6, h7, fun h9 => h4 (by rw [h9])⟩
    · rintro ⟨j, h1, h2, h3, h4, h5, h6, h7⟩
      refine ⟨j, h1, by rw [s0c 17 j (by omega), (hpr j h1).1]; exact h2, by rw [s0c 18 j (by omega), (hpr j h1).2.2.2.1 (by rw [h2]; decide)]; exact h3, ?_, h4, (tW_lf D0 hD04 l h4).mpr h5, by rw [s0K 2 (by decide) (by decide), (tR (2 * l) (by omega)).1]; exact h6⟩
      rw [s04]
      exact fun h9 => h7 ((nI_eq (by omega) (by omega)).mp h9))
  rw [xM] at a1 a2 a3 a7 a8
  -- rows behind the REMOVEs
  obtain ⟨Y, eY⟩ : ∃ Y, Y = rdR C2 e D0 (C2.2 17 e) 16 := ⟨_, rfl⟩
  have c217 : C2.2 17 e = M := by rw [← c117, eC2, eC1]; rfl
  have hrd := rd_K C2 e D0 hD04 (C2.2 17 e) 16 (Nat.le_refl _)
  have hrf := rdR_f C2 e D0 (C2.2 17 e) 16
  rw [← eY, c217] at hrd
  rw [← eY] at hrf
  obtain ⟨r1, r2, r3⟩ := hrd
  have xK : ∀ v, v < 31 → X.2.2 2 e v = rK Y e v ∧ X.2.2 4 e v = rU Y e v ∧ X.2.2 3 e v = (if rK Y e v = -1 then -1 else Y.2 24 (31 * e + v)) ∧ (rK Y e v = if hitI M D0 16 v = true then -1 else rK R (e - 1) v) ∧ rU Y e v = if hitI M D0 16 v = true then 0 else rU R (e - 1) v := fun v hv => by
    rw [a1, a2, a3, (r2 v).1, (r2 v).2, (c2K v hv).1, (c2K v hv).2.1, hrf.2 24 (by decide) (by decide) (by decide), (c2K v hv).2.2, s0K 2 (by decide) (by decide), s0K 3 (by decide) (by decide), s0K 4 (by decide) (by decide), (tR v hv).1, (tR v hv).2.1, (tR v hv).2.2]
    cases hitI M D0 16 v <;> simp
  -- shrinking
  have y13 : Y.2 13 e = nI D0 := by rw [hrf.2 13 (by decide) (by decide) (by decide)]; exact c213
  have ybl : ∀ v, v < 31 → tW D0 ≤ v → rK Y e v = -1 ∧ rU Y e v = 0 := fun v hv hw => by
    obtain ⟨-, -, -, h4, h5⟩ := xK v hv
    have h6 := (hTI.2 v hv).1 hw
    rw [h4, h5, h6, (hTI.2 v hv).2.1 h6]
    cases hitI M D0 16 v <;> simp
  obtain ⟨k1, k2, k3, k4, k5⟩ := sk_K e D0 Y hD04 y13 ybl
  have hsf := skR_f e D0 Y
  obtain ⟨D1, eD1⟩ : ∃ D1, D1 = shr (rK Y e) D0 := ⟨_, rfl⟩
  obtain ⟨C3, eC3⟩ : ∃ C3, C3 = ch3 R e a D0 := ⟨_, rfl⟩
  have eC3' : C3 = skR e D0 Y := by rw [eC3, eY, eC2]; rfl
  rw [← eC3'] at k1 k2 k3 k4 k5
  rw [← eD1] at k2 k3
  rw [← eC3'] at hsf
  have hD1 : D1 ≤ D0 := by rw [eD1]; exact shr_le _ _
  have hD14 : D1 ≤ 4 := by omega
  obtain ⟨S1, eS1⟩ : ∃ S1, S1 = cm1 S m := ⟨_, rfl⟩
  have s1 : S1 = shS X e := by rw [eS1]; unfold cm1 rmS; rw [← eS0, s0Q, hsE, ← eX]
  have xD : X.1 2 e = D0 := by rw [hq.2.1]; exact s0D
  have hsh : shr (X.2.2 2 e) D0 = D1 := by
    rw [eD1]
    exact shr_c D0 (fun i hi => (xK (2 * i) (by have := p2D hD04; omega)).1)
  have s1D : S1.1 2 e = D1 := by rw [s1]; unfold shS dpS; rw [xD, hsh]; simp [stN]
  have hTle := tW_m hD1
  have s1K : ∀ v, v < 31 → S1.2.2 2 e v = rK C3 e v ∧ S1.2.2 4 e v = rU C3 e v ∧ S1.2.2 3 e v = if rK C3 e v = -1 then -1 else C3.2 24 (31 * e + v) := fun v hv => by
    obtain ⟨g1, g2, g3, -, -⟩ := xK v hv
    have h2 : S1.2.2 2 e v = cut (tW D1) (tW D0) (-1) (X.2.2 2 e) v := by rw [s1]; unfold shS dpS; rw [xD, hsh]; simp [stN, trS, st2]
    have h3 : S1.2.2 3 e v = cut (tW D1) (tW D0) (-1) (X.2.2 3 e) v := by rw [s1]; unfold shS dpS; rw [xD, hsh]; simp [stN, trS, st2]
    have h4 : S1.2.2 4 e v = cut (tW D1) (tW D0) 0 (X.2.2 4 e) v := by rw [s1]; unfold shS dpS; rw [xD, hsh]; simp [stN, trS, st2]
    rw [h2, h3, h4, (k3 v hv).1, (k3 v hv).2, k4]
    simp only [cut]
    by_cases hw : tW D1 ≤ v
    · rw [if_pos hw, if_pos hw, if_pos rfl]
      by_cases hw2 : v < tW D0
      · rw [if_pos ⟨hw, hw2⟩, if_pos ⟨hw, hw2⟩, if_pos ⟨hw, hw2⟩]; exact ⟨rfl, rfl, rfl⟩
      · rw [if_neg (fun h => hw2 h.2), if_neg (fun h => hw2 h.2), if_neg (fun h => hw2 h.2), g1, g2, g3]
        have := ybl v hv (by omega)
        rw [this.1, this.2]
        exact ⟨rfl, rfl, if_pos rfl⟩
    · rw [if_neg hw, if_neg hw, if_neg (fun h => hw h.1), if_neg (fun h => hw h.1), if_neg (fun h => hw h.1)]
      exact ⟨g1, g2, g3⟩
  have s1c : ∀ c i, S1.2.1 c i = X.2.1 c i := fun c i => by rw [s1]; rfl
  have s1m : ∀ q, mv S1 q = mv X q := fun q => by rw [s1]; simp [mv, shS, dpS, stN, trS, st2]
  have s10 : S1.1 0 = S.1 0 := by
    rw [← s00, ← hq.1, s1]; funext b; simp [shS, dpS, stN, trS, st2]
  -- the UPDATEs
  obtain ⟨C4, eC4⟩ : ∃ C4, C4 = ch4 R e a D0 := ⟨_, rfl⟩
  have dp3 : dp C3 e = D1 := by unfold dp; rw [k2]; exact nI_clamp (by omega)
  have eC4' : C4 = udR C3 e D1 (C3.2 18 e) 16 := by rw [eC4]; unfold ch4; rw [← eC3, dp3]
  have y17 : C3.2 17 = C2.2 17 := (hsf.2.1 17 (by decide) (by decide) (by decide)).trans (hrf.2 17 (by decide) (by decide) (by decide))
  have y18 : C3.2 18 = C2.2 18 := (hsf.2.1 18 (by decide) (by decide) (by decide)).trans (hrf.2 18 (by decide) (by decide) (by decide))
  have y51 : C3.2 51 = C2.2 51 := (hsf.2.1 51 (by decide) (by decide) (by decide)).trans (hrf.2 51 (by decide) (by decide) (by decide))
  obtain ⟨FN, eFN⟩ : ∃ FN : Nat → Int32 × (Nat → Int32), FN = fuM C1 e a 0 (C1.2 51) := ⟨_, rfl⟩
  have c218 : C2.2 18 e = (FN (R.1 42)).1 := by
    rw [eC2, eFN]
    show upd ((ch1 R e a D0).2 18) e _ e = _
    simp only [upd, if_true]
    rw [← eC1, c118]
  have c251 : C2.2 51 = (FN (R.1 42)).2 := by
    rw [eC2, eFN]
    show (fuM (ch1 R e a D0) e a ((ch1 R e a D0).2 18 e) ((ch1 R e a D0).2 51) (R.1 42)).2 = _
    rw [← eC1, c118]
  have lfpe : ∀ j, lfp C1 j = lfp R j := fun j => by
    unfold lfp
    rw [c1f 28 (by decide) (by decide) (by decide) (by decide) (by decide) (by decide) (by decide) (by decide), c1f 44 (by decide) (by decide) (by decide) (by decide) (by decide) (by decide) (by decide) (by decide)]
  have lf2 : ∀ j, j < R.1 42 → R.2 43 j = 2 → ∃ b q, b < 16 ∧ q < 16 ∧ R.2 44 j = nI q ∧ R.2 28 q = nI b ∧ lfp R j = b ∧ ow R (e - 1) b = nI q ∧ S.2.1 18 j = nI b := fun j hj h2 => by
    obtain ⟨q, hq16, hq44, hq27⟩ := (hpr j hj).2.1
    obtain ⟨b, hb, hb28, hbo⟩ := (hmb q hq16).2.2 hq27
    have hcq : (R.2 44 j).toNatClampNeg = q := by rw [hq44]; exact nI_clamp (by omega)
    refine ⟨b, q, hb, hq16, hq44, hb28, ?_, hbo, ?_⟩
    · unfold lfp; rw [hcq, hb28]; exact nI_clamp (by omega)
    · rw [((hpr j hj).2.2.2.2.1 h2).1, hcq]; exact hb28
  have c143 : C1.2 43 = R.2 43 := c1f 43 (by decide) (by decide) (by decide) (by decide) (by decide) (by decide) (by decide) (by decide)
  have c145 : C1.2 45 = R.2 45 := c1f 45 (by decide) (by decide) (by decide) (by decide) (by decide) (by decide) (by decide) (by decide)
  have hfu := fu_b C1 e a (R.1 42) (C1.2 51) (fun i hi h2 => by
    rw [c143] at h2
    obtain ⟨b, q, hb, -, -, -, hl, -⟩ := lf2 i hi h2
    rw [lfpe, hl]; exact hb) (R.1 42) (Nat.le_refl _)
  rw [← eFN] at hfu
  have s1M : S1.2.1 7 e = M := by rw [s1c]; exact xM
  have qx : ∀ c i, 4 ≤ c → c ≠ 7 → c ≠ 20 → S1.2.1 c i = S0.2.1 c i := fun c i h1 h2 h3 => by rw [s1c, hq.2.2 c h1 h2 h3]
  have hU := upL_A S1 e D1 hD14 s1D (R.1 42) (fun i => (FN i).1) (fun i => (FN i).2) (by rw [eFN]; rfl) (fun i hi => by
    have e17 : S1.2.1 17 i = R.2 43 i := by rw [qx 17 i (by decide) (by decide) (by decide), s0c 17 i (by omega)]; exact (hpr i hi).1
    have e18 : S1.2.1 18 i = S.2.1 18 i := by rw [qx 18 i (by decide) (by decide) (by decide), s0c 18 i (by omega)]
    have e19 : S1.2.1 19 i = S.2.1 19 i := by rw [qx 19 i (by decide) (by decide) (by decide), s0c 19 i (by omega)]
    have e4 : S1.2.1 4 e = nI a := by rw [qx 4 e (by decide) (by decide) (by decide)]; exact s04
    have st : FN (i + 1) = if fuQ C1 e a (lfp C1 i) i then ((FN i).1 ||| bitN (lfp C1 i), upd (FN i).2 (lfp C1 i) (C1.2 45 i)) else FN i := by rw [eFN]; rfl
    have key : upQ S1 e i ↔ fuQ C1 e a (lfp C1 i) i := by
      unfold upQ fuQ
      rw [e17, e18, e4, s1M, c143, c117]
      constructor
      · rintro ⟨h1, h2, h3⟩
        obtain ⟨b, q, hb, hq16, -, -, hl, -, h18⟩ := lf2 i hi h1
        rw [h18, nI_clamp (by omega)] at h3
        rw [h18] at h2
        rw [lfpe, hl]
        exact ⟨h1, fun h9 => h2 (by rw [h9]), h3⟩
      · rintro ⟨h1, h2, h3⟩
        obtain ⟨b, q, hb, hq16, -, -, hl, -, h18⟩ := lf2 i hi h1
        rw [lfpe, hl] at h2 h3
        rw [h18, nI_clamp (by omega)]
        exact ⟨h1, fun h9 => h2 ((nI_eq (by omega) (by omega)).mp h9), h3⟩
    refine ⟨fun h9 => ?_, fun h9 => ?_⟩
    · have h8 := key.mp h9
      have h1 := h8.1
      rw [c143] at h1
      obtain ⟨b, q, hb, hq16, -, -, hl, -, h18⟩ := lf2 i hi h1
      refine ⟨b, hb, by rw [e18]; exact h18, ?_, ?_⟩
      · show (FN (i + 1)).1 = _
        rw [st, if_pos h8, lfpe, hl]
      · show (FN (i + 1)).2 = _
        rw [st, if_pos h8, lfpe, hl, e19, ((hpr i hi).2.2.2.2.1 h1).2.1, c145]
    · have h8 : ¬ fuQ C1 e a (lfp C1 i) i := fun h => h9 (key.mpr h)
      show (FN (i + 1)).1 = _ ∧ (FN (i + 1)).2 = _
      rw [st, if_neg h8]; exact ⟨rfl, rfl⟩) (by rw [qx 8 e (by decide) (by decide) (by decide)]; exact s08) (R.1 42) (Nat.le_refl _)
  have hu := uq_upL S1 e (R.1 42)
  obtain ⟨S2, eS2⟩ : ∃ S2, S2 = cm2 S m := ⟨_, rfl⟩
  have s2 : S2 = upL S1 e (R.1 42) := by rw [eS2]; unfold cm2; rw [← eS1, hsE, hQ]
  rw [← s2] at hU hu
  obtain ⟨u1, u2, u3, u4⟩ := hU
  change S2.2.1 8 e = (FN (R.1 42)).1 at u1
  obtain ⟨UP, eUP⟩ : ∃ UP, UP = (FN (R.1 42)).1 := ⟨_, rfl⟩
  obtain ⟨NK, eNK⟩ : ∃ NK, NK = (FN (R.1 42)).2 := ⟨_, rfl⟩
  rw [← eUP] at u1 u4 c218 hfu
  rw [← eNK] at u4 c251 hfu
  have hud := ud_K C3 e D1 hD14 (C3.2 18 e) 16 (Nat.le_refl _)
  have huf := udR_f C3 e D1 (C3.2 18 e) 16
  rw [← eC4'] at hud huf
  rw [y18, c218] at hud
  rw [y51, c251] at hud
  obtain ⟨d1, d2⟩ := hud
  have hupb : ∀ l, l < 32 → tb UP l = true → l < 16 ∧ rK R (e - 1) (2 * l) ≠ -1 ∧ tb M l = false ∧ NK l ≠ -1 ∧ ∃ j, j < R.1 42 ∧ R.2 43 j = 2 ∧ lfp R j = l ∧ NK l = R.2 45 j := fun l hl hb => by
    obtain ⟨j, h1, ⟨h2, h3, h4⟩, h5, h6⟩ := (hfu l hl).1 hb
    rw [c143] at h2
    rw [c145] at h6
    rw [lfpe] at h5
    obtain ⟨b, q, hb16, hq16, -, -, hlb, hbo, h18⟩ := lf2 j h1 h2
    have hlb2 : l = b := by rw [← h5]; exact hlb
    subst hlb2
    rw [c117] at h4
    refine ⟨hb16, fun h9 => ?_, (and_bit (by omega)).mp h4, by rw [h6]; exact ((hpr j h1).2.2.2.2.1 h2).2.2, j, h1, h2, h5, h6⟩
    have := ((hOI.1 l hb16).1).mpr h9
    rw [hbo] at this
    exact absurd this (nI_ne1 (by omega))
  have evn : ∀ v, v < 31 → (v % 2 = 0 ∧ v / 2 < 16 ∧ tb UP (v / 2) = true ↔ v % 2 = 0 ∧ tb UP (v / 2) = true) := fun v hv => ⟨fun h => ⟨h.1, h.2.2⟩, fun h => ⟨h.1, by omega, h.2⟩⟩
  have c4K : ∀ v, v < 31 → rK C4 e v = (if v % 2 = 0 ∧ tb UP (v / 2) = true then NK (v / 2) else if hitI UP D1 16 v = true then -1 else rK C3 e v) ∧ rU C4 e v = (if hitI UP D1 16 v = true then 0 else rU C3 e v) ∧ C4.2 24 (31 * e + v) = if v % 2 = 0 ∧ tb UP (v / 2) = true then nI e else C3.2 24 (31 * e + v) := fun v hv => by
    have h9 := d2 v hv
    by_cases hc : v % 2 = 0 ∧ tb UP (v / 2) = true
    · have hc2 := (evn v hv).mpr hc
      rw [if_pos hc2, if_pos hc2] at h9
      rw [if_pos hc, if_pos hc]; exact h9
    · have hc2 : ¬ (v % 2 = 0 ∧ v / 2 < 16 ∧ tb UP (v / 2) = true) := fun h => hc ((evn v hv).mp h)
      rw [if_neg hc2, if_neg hc2] at h9
      rw [if_neg hc, if_neg hc]; exact h9
  have s2K : ∀ v, v < 31 → S2.2.2 2 e v = rK C4 e v ∧ S2.2.2 4 e v = rU C4 e v ∧ S2.2.2 3 e v = if rK C4 e v = -1 then -1 else C4.2 24 (31 * e + v) := fun v hv => by
    obtain ⟨g1, g2, g3⟩ := u4 v hv
    obtain ⟨q1, q2, q3⟩ := c4K v hv
    obtain ⟨w1, w2, w3⟩ := s1K v hv
    rw [g1, g2, g3, q1, q2, q3, w1, w2, w3]
    by_cases hc : v % 2 = 0 ∧ tb UP (v / 2) = true
    · rw [if_pos hc, if_pos hc, if_pos hc, if_neg (hupb (v / 2) (by omega) hc.2).2.2.2.1]; exact ⟨rfl, rfl, rfl⟩
    · rw [if_neg hc, if_neg hc, if_neg hc]
      cases hitI UP D1 16 v <;> simp
  have d17 : C4.2 17 e = M := by rw [huf.2 17 (by decide) (by decide) (by decide), y17]; exact c217
  have d18 : C4.2 18 e = UP := by rw [huf.2 18 (by decide) (by decide) (by decide), y18]; exact c218
  have d19 : C4.2 19 e = 0 := by
    rw [eC4, (ch4_f R e a D0).2.1 19 (by decide) (by decide) (by decide) (by decide) (by decide) (by decide) (by decide) (by decide) (by decide) (by decide)]; exact z19
  have d26 : ∀ l, l < 16 → ow C4 e l = if tb M l = true then -1 else ow R (e - 1) l := fun l hl => by
    unfold ow
    rw [huf.2 26 (by decide) (by decide) (by decide), k5, r3, c2O l hl]
    by_cases hb : tb M l = true
    · rw [if_pos ⟨hl, hb⟩, if_pos hb]
    · rw [if_neg (fun h => hb h.2), if_neg hb]; rfl
  rw [← eS2, ← eC4]
  refine ⟨D1, ⟨⟨by rw [hu.1]; exact s1D, by rw [huf.2 13 (by decide) (by decide) (by decide)]; exact k2, s2K⟩, ⟨?_, ?_, ?_⟩, fun l hl => ?_, ?_, fun q hq16 => ?_, by rw [d17]; exact hMa, ?_⟩, d19, fun v hv hk => ?_⟩
  · rw [d17, hu.2.1 7 (by decide)]; exact s1M
  · rw [d18]; exact u1
  · rw [d19, hu.2.1 9 (by decide), qx 9 e (by decide) (by decide) (by decide)]; exact s09
  · rw [hu.2.1 20 (by decide), s1c, a7 l hl, how9 l hl, d26 l hl]
  · rw [d17, d18, d19]
    exact PT_ru (K1 := rK Y e) (U1 := rU Y e) (K2 := rK C3 e) (U2 := rU C3 e) (NK := NK) hTI hOI hMk (fun l hl hb => by
      have h9 := hupb l hl hb
      exact ⟨h9.1, h9.2.1, h9.2.2.1, h9.2.2.2.1⟩) (fun v hv => (xK v hv).2.2.2) eD1 k3 (fun v hv => ⟨(c4K v hv).1, (c4K v hv).2.1⟩) d26
  · have e1 : mv S2 q = mv S1 q := by
      simp only [mv]
      rw [hu.1, hu.2.1 0 (by decide), hu.2.1 1 (by decide), hu.2.1 2 (by decide), hu.2.1 3 (by decide), hu.2.2 0 (by decide), hu.2.2 1 (by decide)]
    have e2 : mvL S0 q = mvL S q := by
      have h9 := s0m q
      simp only [mv, Prod.mk.injEq] at h9
      simp only [mvL, h9.2.2.2.1, h9.2.2.2.2.2.1, h9.2.2.2.2.2.2]
    rw [e1, s1m, d17]
    have key : lft S0 M q ↔ (R.2 27 q = nI (e - 1) ∧ ¬ M &&& bitN (R.2 28 q).toNatClampNeg = 0) := by
      have hl9 : lat S0 q = true ↔ R.2 27 q = nI (e - 1) := by
        unfold lat
        rw [s0E, s0c 0 q (by omega), (hmb q hq16).1]
        simp
      constructor
      · rintro ⟨h1, l, h2, h3, h4⟩
        have h5 := hl9.mp h1
        obtain ⟨b, hb, hb28, hbo⟩ := (hmb q hq16).2.2 h5
        rw [how9 l h2] at h4
        have : l = b := hOI.2 l b h2 hb (by rw [h4, hbo]) (by rw [h4]; exact nI_ne1 (by omega))
        subst this
        rw [hb28, nI_clamp (by omega)]
        exact ⟨h5, (and_bit' (by omega)).mpr h3⟩
      · rintro ⟨h1, h2⟩
        obtain ⟨b, hb, hb28, hbo⟩ := (hmb q hq16).2.2 h1
        rw [hb28, nI_clamp (by omega)] at h2
        exact ⟨hl9.mpr h1, b, hb, (and_bit' (by omega)).mp h2, by rw [how9 b hb]; exact hbo⟩
    rw [← key, ← e2, ← s0m]
    exact a8 q hq16
  · have h0 := rof_ch2 R e a D0
    rw [← eC2] at h0
    exact ((h0.trans r1).trans k1).trans d1
  · obtain ⟨q1, -, -⟩ := c4K v hv
    by_cases hc : v % 2 = 0 ∧ tb UP (v / 2) = true
    · right
      obtain ⟨h1, -, -, -, j, h2, h3, h4, h5⟩ := hupb (v / 2) (by omega) hc.2
      exact ⟨v / 2, j, by omega, h1, h2, h3, h4, by rw [q1, if_pos hc]; exact h5⟩
    · left
      rw [if_neg hc] at q1
      by_cases hh : hitI UP D1 16 v = true
      · rw [if_pos hh] at q1; exact absurd q1 hk
      · rw [if_neg hh, (k3 v hv).1] at q1
        by_cases hw : tW D1 ≤ v
        · rw [if_pos hw] at q1; exact absurd q1 hk
        · rw [if_neg hw, (xK v hv).2.2.2.1] at q1
          by_cases hr : hitI M D0 16 v = true
          · rw [if_pos hr] at q1; exact absurd q1 hk
          · rw [if_neg hr] at q1; exact q1
