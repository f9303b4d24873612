/-! J BEHIND A STEP -/
theorem pn_odd : ∀ l, l < 16 → ∀ i, i ≤ 4 → 1 ≤ i → ∀ k, k < 16 → pn l i ≠ 2 * k := by decide +kernel
theorem pn_tw : ∀ D, D ≤ 4 → ∀ a, a < 2 ^ D → ∀ h, h ≤ D → pn a h < tW D := by decide +kernel
theorem hd_in (R : SR) (s : Int32) : s ∈ lst (hdR R s) ∧ ∀ t, t ∈ lst R → t ∈ lst (hdR R s) := by
  by_cases q : s ∈ lst R
  · have e : hdR R s = R := by unfold hdR; rw [if_pos q]
    rw [e]; exact ⟨q, fun t h => h⟩
  · rw [hd_l q]; exact ⟨by simp, fun t h => List.mem_append_left _ h⟩
/-- the key that a member uses to hear of a commit -/
theorem fo_key {S : SC} {R : SR} (h : J S R) {m e l D : Nat} (hm : m < 16) (hi : jMi S R m e l) (he : e + 1 < R.1 12) (h13 : R.2 13 (e + 1) = nI D) (hD4 : D ≤ 4) (hrm : tb (R.2 17 (e + 1)) l = false) : (rK R (e + 1) (2 * l) ≠ -1 ∧ l < 2 ^ D ∧ ow R (e + 1) l = ow R e l ∧ tb (R.2 19 (e + 1)) l = false) ∧ (∀ i, 1 ≤ i → i ≤ 4 → rK R (e + 1) (pn l i) ≠ -1 → tb (R.2 16 (e + 1)) (pn l i) = true ∨ (rK R (e + 1) (pn l i) = rK R e (pn l i) ∧ tb (R.2 18 (e + 1)) l = false ∧ (tb (rU R e (pn l i)) l = true → tb (rU R (e + 1) (pn l i)) l = true))) ∧ (tb (R.2 18 (e + 1)) l = true ∨ S.2.2 0 m 0 = rK R (e + 1) (2 * l)) ∧ ∀ h, lowc D (R.2 16 (e + 1)) l = some h → ∃ i, i ≤ h ∧ pn l i ∈ rsv (rK R (e + 1)) (rU R (e + 1)) h (pn l h) ∧ (i = 0 ∨ (tb (R.2 18 (e + 1)) l = false ∧ S.2.2 0 m i = rK R (e + 1) (pn l i))) ∧ ∃ k, k < R.1 7 ∧ R.2 8 k = rK R (e + 1) (pn l i) ∧ R.2 10 k = nI (e + 1) ∧ R.2 11 k = nI (pn l (h + 1)) := by
  obtain ⟨⟨⟨n1, n2, n3⟩, -⟩, -, -, ⟨hT, -⟩, -, -, -, -, -, -, hH, -, hF2⟩ := h
  obtain ⟨i1, i2, i3, i4, i5, i6, i7, i8, i9, i10, i11, i12⟩ := hi
  obtain ⟨c, c1, c2, c3, c4, hsv, hadd, h21, hcn⟩ := hH (e + 1) D (by omega) he h13 hD4
  rw [show e + 1 - 1 = e by omega] at c3 hsv
  obtain ⟨De, -, hTIe, hOIe, -⟩ := hT e i2
  have hlk : rK R e (2 * l) ≠ -1 := fun w => by
    have := ((hOIe.1 l i3).1).mpr w
    rw [i5] at this; exact absurd this (nI_ne1 (by omega))
  obtain ⟨s1, s2, s3, s4, s5, s6⟩ := hsv l i3 hlk hrm
  obtain ⟨D1, hTE1, hTI1, -⟩ := hT (e + 1) he
  have hD1 : D1 = D := by
    have h9 := hTE1.2.1
    rw [h13] at h9
    have := hTI1.1
    exact ((nI_eq (by omega) (by omega)).mp h9).symm
  subst hD1
  have hlc : l ≠ c := fun w => by
    subst w
    rcases hF2 (e + 1) l m (by omega) he c1 hm c2 (by rw [show e + 1 - 1 = e by omega]; exact i5) with ⟨a, a1, a2, a3⟩ | ⟨a1, -⟩
    · rw [i1] at a3
      have := (nI_eq (by omega) (by omega)).mp a3; omega
    · rw [i1] at a1; exact absurd a1 (nI_ne1 (by omega))
  have haD : l < 2 ^ D1 := by
    by_cases w : tW D1 ≤ 2 * l
    · exact absurd ((hTI1.2 (2 * l) (by omega)).1 w) s3
    · unfold tW at w
      have := p2pos (D1 + 1)
      rw [Nat.pow_succ] at w; omega
  refine ⟨⟨s3, haD, s1, s2⟩, s5, ?_, fun h hw => ?_⟩
  · rcases s4 hlc with w | w
    · exact Or.inl w
    · right; rw [i9, i8, w]
  · obtain ⟨i, j1, j2, j3, k, k1, k2, k3, k4⟩ := s6 hlc h hw
    have hh := lowc_lt hw
    refine ⟨i, j1, j2, ?_, k, k1, k2, k3, k4⟩
    rcases j3 with j3 | ⟨j3, j4, j5⟩
    · exact Or.inl j3
    · by_cases z : i = 0
      · exact Or.inl z
      · right
        have hne := (rsv_in hTI1 h (pn l h) (pn l i) (by omega) (pn_31 l i3 h (by omega)) (hgt_pn h (by omega) l i3) j2).2.2
        obtain ⟨x1, x2, x3⟩ := i10 i (by omega) (by omega)
        refine ⟨j5, ?_⟩
        rcases x3 (by rw [← j3]; exact hne) with y | y
        · rw [x1, y, j3]
        · rw [j4] at y; cases y
theorem j_fo {S : SC} {R : SR} (h : J S R) {m e l : Nat} (hm : m < 16) (hi : jMi S R m e l) (he : e + 1 < R.1 12) (hrm : R.2 17 (e + 1) &&& bitN l = 0) : ∃ D, (l < 16 ∧ l < 2 ^ S.1 2 (e + 1) ∧ D ≤ 4 ∧ R.2 13 (e + 1) = nI D ∧ S.2.1 0 m = nI e ∧ S.2.1 1 m = nI l ∧ R.2 28 m = nI l ∧ S.2.1 7 (e + 1) = R.2 17 (e + 1)) ∧ (∀ h, foW R (e + 1) l D = some h → ∃ k, k < R.1 7 ∧ toQ R (foH (ri R 0 0) m (S.1 1 m) (e + 1) l) (e + 1) l h k) ∧ (cfS S m (e + 1) l).2.1 0 m = nI (e + 1) ∧ (foR (ri R 0 0) m (S.1 1 m) (e + 1) l D).2 27 m = nI (e + 1) ∧ J (cfS S m (e + 1) l) (foR (ri R 0 0) m (S.1 1 m) (e + 1) l D) := by
  have h0 := h
  have hi0 := hi
  obtain ⟨⟨⟨n1, n2, n3⟩, ⟨p1, p2⟩, ⟨-, q2⟩, ⟨-, -, a7⟩, -⟩, ⟨-, hZ2⟩, hX, ⟨hT, -⟩, hM, hK, -, -, -, -, hH, hF1, hF2⟩ := h
  have hNN : R.1 1 ≤ 2600 := by omega
  obtain ⟨D, hTE, hTI, hOI, hkk, hinj⟩ := hT (e + 1) he
  obtain ⟨hD2, hD13, hrow⟩ := hTE
  have hD4 := hTI.1
  obtain ⟨i1, i2, i3, i4, i5, i6, i7, i8, i9, i10, i11, i12⟩ := hi
  have hrm2 : tb (R.2 17 (e + 1)) l = false := (and_bit (by omega)).mp hrm
  obtain ⟨⟨s1, s2, s3, s4⟩, s5, s6, s7⟩ := fo_key h0 hm hi0 he hD13 hD4 hrm2
  obtain ⟨c, -, -, -, -, -, -, h21, hcn⟩ := hH (e + 1) D (by omega) he hD13 hD4
  have hcw : ∀ v, v < 32 → tb (R.2 16 (e + 1)) v = true → v < tW D := fun v hv hb => (hcn v hv hb).1
  obtain ⟨⟨g1, g2, g3, g4, g5, g6⟩, g7⟩ := hM m hm
  obtain ⟨x4, x5, x6, x7, x8, x9, x10⟩ := (hX (e + 1) he).1
  have hif : foW R (e + 1) l D = lowc D (R.2 16 (e + 1)) l := by
    unfold foW
    by_cases w : R.2 21 (e + 1) = 0
    · rw [if_pos w, h21 w]
      cases hw : lowc D (0 : Int32) l with
      | none => rfl
      | some h9 => have := (lowc_mn i3 hD4 hw).1; rw [tb_0] at this; cases this
    · rw [if_neg w]
  have tkS : ∀ i, i ≤ 4 → tk D (S.2.2 2 (e + 1)) (pn l i) = rK R (e + 1) (pn l i) := fun i hi => by
    unfold tk
    by_cases w : pn l i < tW D
    · rw [if_pos w]; exact (hrow _ (pn_31 l i3 i hi)).1
    · rw [if_neg w]; exact ((hTI.2 _ (pn_31 l i3 i hi)).1 (by omega)).symm
  have tkR : ∀ i, i ≤ 4 → tk D (rK R (e + 1)) (pn l i) = rK R (e + 1) (pn l i) := fun i hi => by
    unfold tk
    by_cases w : pn l i < tW D
    · rw [if_pos w]
    · rw [if_neg w]; exact ((hTI.2 _ (pn_31 l i3 i hi)).1 (by omega)).symm
  -- the class's keys before the step
  obtain ⟨fk, efk⟩ : ∃ fk, fk = flu (S.2.2 2 (e + 1)) (R.2 18 (e + 1)) l (S.2.2 0 m) := ⟨_, rfl⟩
  have fk0 : fk 0 = rK R (e + 1) (2 * l) := by
    rw [efk]; unfold flu
    by_cases w : R.2 18 (e + 1) &&& bitN l = 0
    · rw [if_pos w]
      rcases s6 with s6 | s6
      · have := (and_bit (by omega)).mp w
        rw [s6] at this; cases this
      · exact s6
    · rw [if_neg w]; simp only [upd, if_true]; exact (hrow _ (by omega)).1
  have fki : ∀ i, 1 ≤ i → fk i = S.2.2 0 m i := fun i h1 => by
    rw [efk]; unfold flu
    by_cases w : R.2 18 (e + 1) &&& bitN l = 0
    · rw [if_pos w]
    · rw [if_neg w]; simp only [upd]; rw [if_neg (by omega)]
  have hTIS : TI D (S.2.2 2 (e + 1)) (S.2.2 4 (e + 1)) := TI_c hTI (fun v hv => ⟨(hrow v hv).1, (hrow v hv).2.1⟩)
  have hsk : skd D (S.2.2 2 (e + 1)) (S.2.2 4 (e + 1)) (R.2 16 (e + 1)) (R.2 19 (e + 1)) l fk = false := by
    unfold skd
    cases hw : lowc D (R.2 16 (e + 1)) l with
    | none => rfl
    | some h =>
      have hlt := lowc_lt hw
      obtain ⟨i, j1, j2, j3, -⟩ := s7 h hw
      have hcano : cano D (S.2.2 2 (e + 1)) (S.2.2 4 (e + 1)) (R.2 19 (e + 1)) l h fk = true := by
        unfold cano
        rw [List.any_eq_true]
        refine ⟨i, List.mem_range.mpr (by omega), ?_⟩
        have h31 := pn_31 l i3 i (by omega)
        rw [Bool.and_eq_true, decide_eq_true_eq, decide_eq_true_eq]
        constructor
        · refine (and_bit' (by omega)).mpr ?_
          unfold rcv
          rw [tb_and, Bool.and_eq_true, tb_not _ (by omega)]
          constructor
          · rw [res_m hTIS h (pn l h) (pn l i) (by omega) (pn_31 l i3 h (by omega)) (pn_tw D hD4 l s2 h (by omega)) (hgt_pn h (by omega) l i3) (by omega)]
            rw [rsv_c (K1 := rK R (e + 1)) (U1 := rU R (e + 1)) h (pn l h) (by omega) (pn_31 l i3 h (by omega)) (hgt_pn h (by omega) l i3) (fun r _ hr => ⟨(hrow r hr).1, (hrow r hr).2.1⟩)]
            exact j2
          · cases hb : tb (lns (R.2 19 (e + 1)) 16) (pn l i) with
            | false => rfl
            | true =>
              obtain ⟨k, k1, k2, k3⟩ := (lns_m (by omega) 16 (Nat.le_refl _)).mp hb
              by_cases z : i = 0
              · subst z
                rw [pn_0] at k3
                have : k = l := by omega
                subst this
                rw [s4] at k2; cases k2
              · exact absurd k3 (pn_odd l i3 i (by omega) (by omega) k k1)
        · rw [tkS i (by omega)]
          by_cases z : i = 0
          · subst z; rw [fk0, pn_0]
          · rcases j3 with j3 | ⟨-, j3⟩
            · exact absurd j3 z
            · rw [fki i (by omega), j3]
      show (!cano D (S.2.2 2 (e + 1)) (S.2.2 4 (e + 1)) (R.2 19 (e + 1)) l h fk) = false
      rw [hcano]; rfl
  have hsec : S.2.1 2 m ≠ -1 := by
    obtain ⟨s, y1, y2⟩ := (hX e i2).2
    rw [i6, y2]; exact nI_ne1 (by omega)
  have eC : cfS S m (e + 1) l = mbS S m (nI (e + 1)) (nI l) (S.2.1 5 (e + 1)) (S.2.1 3 m) 0 (lrq D (S.2.2 2 (e + 1)) (R.2 16 (e + 1)) l (lowc D (R.2 16 (e + 1)) l) (drp D (S.2.2 2 (e + 1)) l fk 5)) := by
    unfold cfS
    rw [x7, if_pos hrm, hD2, x6, x9, x8, ← efk, hsk]
    unfold flf fls
    rw [← efk, hsk]
    simp [hsec]
  -- the reference's side
  obtain ⟨W, eW⟩ : ∃ W, W = foR (ri R 0 0) m (S.1 1 m) (e + 1) l D := ⟨_, rfl⟩
  obtain ⟨H, eH⟩ : ∃ H, H = foH (ri R 0 0) m (S.1 1 m) (e + 1) l := ⟨_, rfl⟩
  have hf := foH_f (ri R 0 0) m (S.1 1 m) (e + 1) l
  rw [← eH] at hf
  obtain ⟨A, eA⟩ : ∃ A, A = adK H m (e + 1) l D := ⟨_, rfl⟩
  have A16 : A.2 16 = R.2 16 := by
    rw [eA]
    have : (adK H m (e + 1) l D).2 16 = H.2 16 := by simp [adK, kpR, ad0, ra]
    rw [this, hf.2.1 16 (by decide)]; rfl
  have eW2 : W = tlQ A m (e + 1) l D (lowc D (A.2 16 (e + 1)) l) := by
    rw [eW]; unfold foR
    rw [← eH, ← eA, A16, ← hif]; rfl
  obtain ⟨t1, t2, t3, t4⟩ := tlQ_c A m (e + 1) l D i3 hD4 (by rw [A16]; exact hcw)
  rw [← eW2] at t1 t2 t3 t4
  rw [A16] at t3
  have Af : ∀ f, f ≠ 27 → f ≠ 29 → f ≠ 31 → f ≠ 33 → A.2 f = H.2 f := fun f a b c d => by rw [eA]; simp [adK, kpR, ad0, ra, a, b, c, d]
  have Hf : ∀ f, f ≠ 47 → H.2 f = R.2 f := fun f a => by rw [hf.2.1 f a]; rfl
  have rkH : ∀ v, rK H (e + 1) v = rK R (e + 1) v := fun v => by unfold rK; rw [Hf 22 (by decide)]
  have rkA : ∀ v, rK A (e + 1) v = rK R (e + 1) v := fun v => by rw [← rkH]; unfold rK; rw [Af 22 (by decide) (by decide) (by decide) (by decide)]
  obtain ⟨u1, u2, u3⟩ := adK_c H m (e + 1) l D i3 hD4
  rw [← eA] at u1 u2 u3
  have w33 : ∀ i, 1 ≤ i → i ≤ 4 → W.2 33 (31 * m + pn l i) = if tb (R.2 16 (e + 1)) (pn l i) = true then rK R (e + 1) (pn l i) else if R.2 33 (31 * m + pn l i) = rK R (e + 1) (pn l i) then R.2 33 (31 * m + pn l i) else -1 := fun i h1 h4 => by
    rw [t3 i h1 h4, rkA, u1 i h1 h4, Hf 33 (by decide)]
    rw [show tk D (rK H (e + 1)) (pn l i) = rK R (e + 1) (pn l i) by rw [← tkR i h4]; unfold tk; rw [rkH]]
  have w33n : ∀ v, v < 31 → (∀ i, 1 ≤ i → i ≤ 4 → v ≠ pn l i) → W.2 33 (31 * m + v) = -1 := fun v hv hn => by
    rw [t4 _ (fun i h1 h4 => by have := hn i h1 h4; omega), u2 v hv hn]
  have w33o : ∀ q v, q < 16 → q ≠ m → v < 31 → W.2 33 (31 * q + v) = R.2 33 (31 * q + v) := fun q v hq z hv => by
    rw [t4 _ (fun i h1 h4 => by have := pn_31 l i3 i h4; omega), u3 _ (by omega), Hf 33 (by decide)]
  have w27 : W.2 27 = upd (R.2 27) m (nI (e + 1)) := by rw [t2 27 (by decide), eA, ← Hf 27 (by decide)]; simp [adK, kpR, ad0, ra]
  have w29 : W.2 29 = upd (R.2 29) m (rK R (e + 1) (2 * l)) := by
    rw [t2 29 (by decide), eA, ← Hf 29 (by decide), ← rkH]; simp [adK, kpR, ad0, ra, rK]
  have w31 : W.2 31 = upd (R.2 31) m 0 := by rw [t2 31 (by decide), eA, ← Hf 31 (by decide)]; simp [adK, kpR, ad0, ra]
  have Wf : ∀ f, f ≠ 27 → f ≠ 29 → f ≠ 31 → f ≠ 33 → f ≠ 47 → W.2 f = R.2 f := fun f a b c d k => by rw [t2 f d, Af f a b c d, Hf f k]
  have wK : ∀ v, rK W (e + 1) v = rK R (e + 1) v := fun v => by unfold rK; rw [Wf 22 (by decide) (by decide) (by decide) (by decide) (by decide)]
  have wU : ∀ v, rU W (e + 1) v = rU R (e + 1) v := fun v => by unfold rU; rw [Wf 23 (by decide) (by decide) (by decide) (by decide) (by decide)]
  have wO : ow W (e + 1) l = ow R (e + 1) l := by unfold ow; rw [Wf 26 (by decide) (by decide) (by decide) (by decide) (by decide)]
  have w1 : ∀ f, f ≠ 0 → f ≠ 46 → W.1 f = R.1 f := fun f a b => by
    rw [t1, eA]
    have : (adK H m (e + 1) l D).1 = H.1 := rfl
    rw [this, hf.1 f b]; simp [ri, a]
  have s0 : (cfS S m (e + 1) l).2.2 0 m = lrq D (S.2.2 2 (e + 1)) (R.2 16 (e + 1)) l (lowc D (R.2 16 (e + 1)) l) (drp D (S.2.2 2 (e + 1)) l fk 5) := by
    rw [eC]; simp [mbS, st2, stN, st1]
  refine ⟨D, ⟨i3, by rw [hD2]; exact s2, hD4, hD13, by rw [g1]; exact i1, by rw [g2]; exact i4, i4, x7⟩, fun h hw => ?_, by rw [eC]; simp [mbS, st2, stN, st1], by rw [← eW, w27]; simp [upd], ?_⟩
  · rw [hif] at hw
    obtain ⟨i, j1, j2, j3, k, k1, k2, k3, k4⟩ := s7 h hw
    refine ⟨k, k1, k3, k4, ?_⟩
    rw [k2]
    have h1 : J S (ri R 0 0) := J_c h0 (fun f hf _ _ => by simp [ri, hf]) (fun f _ _ _ _ _ => rfl)
    obtain ⟨-, -, q3, q4, -, -, -⟩ := j_held h1 hm
    have hne := (rsv_in hTI h (pn l h) (pn l i) (by have := lowc_lt hw; omega) (pn_31 l i3 h (by have := lowc_lt hw; omega)) (hgt_pn h (by have := lowc_lt hw; omega) l i3) j2).2.2
    have key : ∀ j, j < 5 → S.2.2 0 m j = rK R (e + 1) (pn l i) → rK R (e + 1) (pn l i) ∈ lst (gaR (ri R 0 0) m (S.1 1 m)) := fun j hj hw => by
      rw [q3]
      refine (q4 _).mp ?_
      unfold gA gl gl2
      refine List.mem_append_left _ (List.mem_append_left _ (List.mem_append_right _ (List.mem_map.mpr ⟨j, List.mem_filter.mpr ⟨List.mem_range.mpr hj, ?_⟩, hw⟩)))
      rw [decide_eq_true_eq, hw]; exact hne
    unfold foH
    by_cases w : R.2 18 (e + 1) &&& bitN l = 0
    · rw [if_pos (show (ri R 0 0).2 18 (e + 1) &&& bitN l = 0 from w)]
      have w2 := (and_bit (by omega)).mp w
      by_cases z : i = 0
      · refine key 0 (by omega) ?_
        rw [z, pn_0]
        rcases s6 with s6 | s6
        · rw [w2] at s6; cases s6
        · exact s6
      · rcases j3 with j3 | ⟨-, j3⟩
        · exact absurd j3 z
        · exact key i (by have := lowc_lt hw; omega) j3
    · rw [if_neg (show ¬ (ri R 0 0).2 18 (e + 1) &&& bitN l = 0 from w)]
      have w2 := (and_bit' (by omega)).mp w
      rcases j3 with j3 | ⟨j3, -⟩
      · rw [j3, pn_0]; exact (hd_in _ _).1
      · rw [w2] at j3; cases j3
  rw [← eW]
  refine j_mv h0 hm (fun w => ?_) (fun c hc => ?_) (fun c a0 a1 a2 a3 a4 => ?_) (fun c hc => ?_) (fun f hf hg _ => w1 f hf hg) (fun f a b c d e g k _ y _ _ _ => Wf f a c d g y) (fun q hq z => ⟨⟨?_, ?_, ?_, ?_, ?_, ?_⟩, ?_, ?_, ?_, ?_, ?_, fun v hv => w33o q v hq z hv⟩) ⟨⟨?_, ?_, ?_, ?_, ?_⟩, Or.inr ⟨e + 1, l, ?_, ?_, i3, ?_, ?_, ?_, ?_, ?_, ?_, fun i h1 h4 => ⟨?_, ?_, fun hk9 => ?_⟩, w33n, fun _ => ?_⟩⟩ (fun q hq => ⟨?_, Or.inl (by rw [Wf 41 (by decide) (by decide) (by decide) (by decide) (by decide)])⟩) (fun q hq => ?_) (fun a9 q f ha9 ha1 hq q36 q41 q39 hf => ?_) (fun f c hf hf1 hc h15 ho => Or.inl ?_)
  · rw [i1] at w
    have := (nI_eq (by omega) (by omega)).mp w; omega
  · rw [eC]; simp [mbS, st2, stN, st1, hc]
  · rw [eC]; simp [mbS, st2, stN, st1, a0, a1, a2, a3, a4]
  · rw [eC]; simp [mbS, st2, stN, st1, hc]
  · rw [eC]; simp [mbS, st2, stN, st1, z]
  · rw [eC]; simp [mbS, st2, stN, st1, z]
  · rw [eC]; simp [mbS, st2, stN, st1, z]
  · rw [eC]; simp [mbS, st2, stN, st1, z]
  · rw [eC]; simp [mbS, st2, stN, st1, z]
  · rw [eC]; simp [mbS, st2, stN, st1, z]
  · rw [w27]; simp [upd, z]
  · rw [Wf 28 (by decide) (by decide) (by decide) (by decide) (by decide)]
  · rw [w29]; simp [upd, z]
  · rw [w31]; simp [upd, z]
  · rw [Wf 32 (by decide) (by decide) (by decide) (by decide) (by decide)]
  · rw [w27, eC]; simp [upd, mbS, st2, stN, st1]
  · rw [Wf 28 (by decide) (by decide) (by decide) (by decide) (by decide), i4, eC]; simp [mbS, st2, stN, st1]
  · rw [Wf 30 (by decide) (by decide) (by decide) (by decide) (by decide), ← g3, eC]; simp [mbS, st2, stN, st1]
  · rw [w31]; simp [upd]
  · rw [eC]; simp [mbS, st2, stN, st1]
  · rw [w27]; simp [upd]
  · rw [w1 12 (by decide) (by decide)]; exact he
  · rw [Wf 28 (by decide) (by decide) (by decide) (by decide) (by decide)]; exact i4
  · rw [wO, s3]; exact i5
  · rw [Wf 14 (by decide) (by decide) (by decide) (by decide) (by decide), ← x5, eC]; simp [mbS, st2, stN, st1]
  · rw [Wf 32 (by decide) (by decide) (by decide) (by decide) (by decide)]; exact i7
  · rw [w29, wK]; simp [upd]
  · rw [s0, lrq_0, w29]
    simp only [drp, upd, if_true]
    rw [tkS 0 (by omega), fk0, pn_0]
    simp
  · rw [s0, lrq_c i3 hD4 hcw h1 h4, w33 i h1 h4, tkS i h4]
    by_cases w : tb (R.2 16 (e + 1)) (pn l i) = true
    · rw [if_pos w, if_pos w]
    · rw [if_neg w, if_neg w]
      simp only [drp]
      rw [tkS i h4, fki i h1, (i10 i h1 h4).1]
      by_cases z : R.2 33 (31 * m + pn l i) = rK R (e + 1) (pn l i)
      · rw [if_neg (fun z9 => z9.2 z), if_pos z]
      · rw [if_pos ⟨by omega, z⟩, if_neg z]
  · rw [w33 i h1 h4, wK]
    by_cases w : tb (R.2 16 (e + 1)) (pn l i) = true
    · rw [if_pos w]; exact Or.inr rfl
    · rw [if_neg w]
      by_cases z : R.2 33 (31 * m + pn l i) = rK R (e + 1) (pn l i)
      · rw [if_pos z]; exact Or.inr z
      · rw [if_neg z]; exact Or.inl rfl
  · rw [wK] at hk9
    rw [w33 i h1 h4, wK, wU]
    rcases s5 i h1 h4 hk9 with w | ⟨w1, w2, w3⟩
    · rw [if_pos w]; exact Or.inl rfl
    · by_cases w : tb (R.2 16 (e + 1)) (pn l i) = true
      · rw [if_pos w]; exact Or.inl rfl
      · rw [if_neg w]
        rcases (i10 i h1 h4).2.2 (by rw [← w1]; exact hk9) with u | u
        · rw [if_pos (by rw [w1]; exact u), w1]; exact Or.inl u
        · exact Or.inr (w3 u)
  · rw [eC]; simp [mbS, st2, stN, st1]
  · rw [Wf 41 (by decide) (by decide) (by decide) (by decide) (by decide), ← (hK.1 q hq).1.2.2.2.2, eC]; simp [mbS, st2, stN, st1]
  · rw [Wf 41 (by decide) (by decide) (by decide) (by decide) (by decide)]; exact hZ2 q hq
  · rw [w27] at ha9
    simp only [upd, if_true] at ha9
    have := (nI_eq (by omega) (by omega)).mp ha9
    subst this
    rw [Wf 41 (by decide) (by decide) (by decide) (by decide) (by decide)] at q41
    have hlt := hF1 m e q f hm i1 i2 hq q36 q41 q39 hf
    by_cases w : f = e + 1
    · exfalso
      subst w
      rcases (hK.1 q hq).2.2.2.2 with k9 | ⟨e8, l8, -, y0, y1, y2, -, -, y3, y4, y5⟩
      · rw [k9.1] at q39; exact absurd q39.symm (nI_ne1 (by omega))
      rw [q39] at y1
      have := (nI_eq (by omega) (by omega)).mp y1
      subst this
      have hl : l8 = l := hOI.2 l8 l y2 i3 (by rw [y3, s3, i5, q36]) (by rw [y3, q36]; exact nI_ne1 (by omega))
      subst hl
      rw [s4] at y5; cases y5
    · omega
  · rcases hF2 f c m hf hf1 hc hm h15 ho with ⟨a9, y1, y2, y3⟩ | ⟨y1, -⟩
    · rw [i1] at y3
      have := (nI_eq (by omega) (by omega)).mp y3
      exact ⟨e + 1, by omega, he, by rw [w27]; simp [upd]⟩
    · rw [i1] at y1; exact absurd y1 (nI_ne1 (by omega))
