/-! what the new epoch's commit did -/
theorem odd_sk {T : SR} {e l i : Nat} (hl : l < 16) (h1 : 1 ≤ i) (h4 : i ≤ 4) : ¬ rsk T e (pn l i) := fun q => by
  have := (hgt_even _ (pn_31 l hl i h4)).mp q.1
  rw [hgt_pn i h4 l hl] at this; omega
theorem tr_new {S3 : SC} {R T6 : SR} {e a D N0 : Nat} {K0 U0 ow0 : Nat → Int32} (hPH : PH S3 T6 e a D N0) (hPI : PI S3 T6 e a D N0 R) (hPT : PT K0 U0 ow0 (R.2 17 e) (R.2 18 e) (R.2 19 e) D (rK T6 e) (rU T6 e) (ow R e)) (h0 : ∀ v, v < 31 → rK R (e - 1) v = K0 v ∧ rU R (e - 1) v = U0 v) (how : ∀ l, l < 16 → ow R (e - 1) l = ow0 l) (hc : R.2 15 e = nI a) (hk : K0 (2 * a) ≠ -1) (hra : tb (R.2 17 e) a = false) (h19 : T6.2 19 e = R.2 19 e) : jH1 R e D ∧ OI (rK R e) (ow R e) ∧ (∀ l, l < 16 → (rK R e (2 * l) = -1 ↔ rK T6 e (2 * l) = -1)) := by
  have hPH0 := hPH
  obtain ⟨⟨ha, haD, he⟩, hTE, hTI, ⟨n1, n2, n3⟩, ⟨-, h9b⟩, ⟨-, h6b⟩, -⟩ := hPH
  obtain ⟨-, hOI, hsv, had, hor, hup, hadl⟩ := hPT
  have hD4 := hTI.1
  have lfw : ∀ l, l < 16 → rK T6 e (2 * l) ≠ -1 → l < 2 ^ D := fun l hl hk9 => by
    by_cases h9 : 2 * l < tW D
    · exact (tW_lf D hD4 l hl).mp h9
    · exact absurd ((hTI.2 (2 * l) (by omega)).1 (by omega)) hk9
  have n26 : N0 + 12 ≤ 2600 := hPH0.2.2.2.2.2.2.2.2.2.2.2.2.2.2.1
  rcases hPI with ⟨h21, X, Y, p, hPA, hrow, hcn, hen, -⟩ | ⟨h21, hcn, hrow⟩
  · -- with a path
    have hPA0 := hPA
    obtain ⟨-, -, -, ⟨r1, ⟨r2, r2b⟩, r3, r4, r5⟩, -, -, -, -, -, -, ⟨-, -, ae3⟩, -⟩ := hPA
    have lf : ∀ l, l < 16 → (l = a → rK R e (2 * l) = nI N0) ∧ (l ≠ a → rK R e (2 * l) = rK T6 e (2 * l)) := fun l hl => by
      refine ⟨fun q => by rw [(hrow _).1, q]; exact r2, fun q => ?_⟩
      rw [(hrow _).1]
      exact (r1 (2 * l) (by omega) (fun i hi w => by have := pn_lf a ha i (by omega) l hl w.symm; omega)).1
    have off : ∀ v, v < 31 → (∀ i, i ≤ 4 → v ≠ pn a i) → rK R e v = rK T6 e v ∧ rU R e v = rU T6 e v := fun v hv hn => by
      rw [(hrow v).1, (hrow v).2]; exact r1 v hv (fun i hi => hn i (by omega))
    have onp : ∀ i, 1 ≤ i → i ≤ 4 → rK R e (pn a i) ≠ -1 → i ≤ D ∧ tb (R.2 16 e) (pn a i) = true := fun i h1 h4 hk9 => by
      rw [(hrow _).1] at hk9
      rw [hcn]
      by_cases hi : i ≤ D
      · rcases (r3 i h1 hi).2 with ⟨w, -, -⟩ | ⟨k, -, -, -, w, -⟩
        · exact absurd w hk9
        · exact ⟨hi, w⟩
      · exfalso
        rw [(r1 (pn a i) (pn_31 a ha i h4) (fun j hj w => by have := pn_in a ha i h4 j (by omega) w; omega)).1] at hk9
        refine hk9 ((hTI.2 _ (pn_31 a ha i h4)).1 ?_)
        by_cases q : pn a i < tW D
        · have := hgt_tw D hD4 _ (pn_31 a ha i h4) q
          rw [hgt_pn i h4 a ha] at this; omega
        · omega
    have blk : ∀ l, l < 16 → (rK R e (2 * l) = -1 ↔ rK T6 e (2 * l) = -1) := fun l hl => by
      by_cases q : l = a
      · rw [(lf l hl).1 q]
        have h9 := (hsv a ha hk hra).2.2.1
        rw [q]
        exact ⟨fun w => absurd w (nI_ne1 (by omega)), fun w => absurd w h9⟩
      · rw [(lf l hl).2 q]
    -- above a leaf
    have abv : ∀ l i, l < 16 → 1 ≤ i → i ≤ 4 → rK R e (pn l i) ≠ -1 → (tb (R.2 16 e) (pn l i) = true) ∨ (l ≠ a ∧ rK R e (pn l i) = rK T6 e (pn l i) ∧ rU R e (pn l i) = rU T6 e (pn l i)) := fun l i hl h1 h4 hk9 => by
      by_cases q : l = a
      · subst q; exact Or.inl (onp i h1 h4 hk9).2
      · by_cases w : mt a l ≤ i
        · have hu := mt_u a ha l hl i h4 w
          rw [hu] at hk9 ⊢
          exact Or.inl (onp i h1 h4 hk9).2
        · right
          have := off (pn l i) (pn_31 l hl i h4) (fun j hj => mt_d a ha l hl (fun z => q z.symm) i (by omega) j hj)
          exact ⟨q, this.1, this.2⟩
    refine ⟨⟨a, ha, hc, by rw [(h0 _ (by omega)).1]; exact hk, hra, fun l hl hk0 hr => ?_, fun l hl hb => ?_, fun q => by rw [h21] at q; exact absurd q (by decide), fun v hv hb => ?_⟩, ⟨fun l hl => ⟨by rw [blk l hl]; exact (hOI.1 l hl).1, (hOI.1 l hl).2⟩, hOI.2⟩, blk⟩
    · rw [(h0 _ (by omega)).1] at hk0 ⊢
      obtain ⟨g1, g2, g3, g4, g5⟩ := hsv l hl hk0 hr
      refine ⟨by rw [how l hl]; exact g1, g2, fun w => g3 ((blk l hl).mp w), fun q => by rw [(lf l hl).2 q]; exact g4, fun i h1 h4 hk9 => ?_, fun q h hlow => ?_⟩
      · rcases abv l i hl h1 h4 hk9 with w | ⟨-, w1, w2⟩
        · exact Or.inl w
        · rw [w1] at hk9 ⊢
          rw [w2, (h0 _ (pn_31 l hl i h4)).1, (h0 _ (pn_31 l hl i h4)).2]
          exact Or.inr (g5 i h1 h4 hk9)
      · obtain ⟨l1, l2, l3⟩ := lc_path hPH0 hPA0 hl (fun z => q z.symm) g3
        rw [hcn, l1] at hlow
        have hh : h = mt a l - 1 := (Option.some.inj hlow).symm
        have hm := mt_b a ha l hl
        have hms := mt_s a ha l hl (fun z => q z.symm)
        rw [← hh] at l2 hms
        have hh1 : h + 1 = mt a l := by omega
        obtain ⟨i, i1, i2, i3, i4⟩ := rsv_ex (U := rU T6 e) hl g3 h (by omega)
        obtain ⟨-, sd2, sd3, -⟩ := sdn_d a ha h (by omega)
        have ersv : rsv (rK R e) (rU R e) h (pn l h) = rsv (rK T6 e) (rU T6 e) h (pn l h) := by
          rw [← hms]
          exact rsv_c h (sdn a h) (by omega) sd2 sd3 (fun r hr h31 => off r h31 (fun j hj => sd_off ha (by omega) hr j hj))
        have hoff : rK R e (pn l i) = rK T6 e (pn l i) := (off (pn l i) (pn_31 l hl i (by omega)) (fun j hj => mt_d a ha l hl (fun z => q z.symm) i (by omega) j hj)).1
        refine ⟨i, i1, by rw [ersv]; exact i2, ?_, ?_⟩
        · rcases i4 with i4 | i4
          · exact Or.inl i4
          · by_cases z : i = 0
            · exact Or.inl z
            · right
              obtain ⟨w1, w2, w3⟩ := g5 i (by omega) (by omega) i3
              rw [hoff, (h0 _ (pn_31 l hl i (by omega))).1, (h0 _ (pn_31 l hl i (by omega))).2]
              refine ⟨w1, ?_, w2⟩
              cases hb : tb (U0 (pn l i)) l with
              | false => rfl
              | true => exact absurd (w3 hb) i4
        · have hcb : tb (Y.2 16 e) (pn a (h + 1)) = true := by
            rcases (r3 (h + 1) (by omega) (by omega)).2 with ⟨-, -, w⟩ | ⟨k, -, -, -, w, -⟩
            · rw [Nat.add_sub_cancel] at w; exact absurd w l2
            · exact w
          have hnsk : ¬ rsk T6 e (pn l i) := by
            by_cases z : i = 0
            · intro w
              rw [z, pn_0] at w
              have w2 := (and_bit' (by omega)).mp w.2
              rw [show 2 * l / 2 = l by omega, h19, g2] at w2; cases w2
            · exact odd_sk hl (by omega) (by omega)
          obtain ⟨k, k1, k2, k3, k4⟩ := ae3 (h + 1) (by omega) (by omega) hcb (pn l i) (by rw [Nat.add_sub_cancel, hms]; exact i2) hnsk
          have hu : pn l (h + 1) = pn a (h + 1) := by rw [hh1]; exact mt_u a ha l hl (mt a l) (by omega) (Nat.le_refl _)
          refine ⟨k, by have := hen.1; omega, by rw [hen.2 8 (by decide) (by decide) k k1, k2, hoff], by rw [hen.2 10 (by decide) (by decide) k k1]; exact k3, by rw [hen.2 11 (by decide) (by decide) k k1, hu]; exact k4⟩
    · have hl16 := hadl l hl hb
      refine ⟨hl16, fun i h1 h4 hk9 => ?_⟩
      rcases abv l i hl16 h1 h4 hk9 with w | ⟨-, w1, w2⟩
      · exact Or.inl w
      · rw [w1] at hk9
        rw [w2]
        exact Or.inr ((had l hl16 hb).2 i h1 h4 hk9)
    · rw [hcn] at hb
      obtain ⟨i, i1, i2, i3⟩ := r5 v hv hb
      subst i3
      refine ⟨pn_w1 D hD4 i i2 a haD, ?_⟩
      rw [(hrow _).1]
      rcases (r3 i i1 i2).2 with ⟨-, w, -⟩ | ⟨k, w, -, w3, -, -⟩
      · rw [hb] at w; cases w
      · rw [w]; exact nI_ne1 (by have := hPA0.1.2.2; omega)
  · -- without
    have rw1 : rK R e = rK T6 e := funext (fun v => (hrow v).1)
    have rw2 : rU R e = rU T6 e := funext (fun v => (hrow v).2)
    refine ⟨⟨a, ha, hc, by rw [(h0 _ (by omega)).1]; exact hk, hra, fun l hl hk0 hr => ?_, fun l hl hb => ?_, fun _ => hcn, fun v hv hb => by rw [hcn, tb_0] at hb; cases hb⟩, by rw [rw1]; exact hOI, fun l _ => by rw [rw1]⟩
    · rw [(h0 _ (by omega)).1] at hk0 ⊢
      obtain ⟨g1, g2, g3, g4, g5⟩ := hsv l hl hk0 hr
      rw [rw1, rw2]
      refine ⟨by rw [how l hl]; exact g1, g2, g3, fun _ => g4, fun i h1 h4 hk9 => ?_, fun q h hlow => ?_⟩
      · rw [(h0 _ (pn_31 l hl i h4)).1, (h0 _ (pn_31 l hl i h4)).2]
        exact Or.inr (g5 i h1 h4 hk9)
      · have := (lowc_mn hl hD4 hlow).1
        rw [hcn, tb_0] at this; cases this
    · have hl16 := hadl l hl hb
      rw [rw1, rw2]
      exact ⟨hl16, fun i h1 h4 hk9 => Or.inr ((had l hl16 hb).2 i h1 h4 hk9)⟩
