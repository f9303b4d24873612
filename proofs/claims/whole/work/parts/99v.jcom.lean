/-! J BEHIND A COMMIT -/
theorem j_com {S : SC} {R : SR} (h : J S R) (hok : okC S) {m : Nat} (hm : m < 16) (hE : R.1 12 < 60) (hl : R.2 27 m = nI (R.1 12 - 1)) (x : Int32) : ∃ a D0 D b, CH S R (R.1 12) m a D0 ∧ AD S R (cm3 S m) (ch5 R (R.1 12) a D0) (R.1 12) a D ∧ PH (cm3 S m) (ch6 R (R.1 12) a D0 x) (R.1 12) a D (R.1 1) ∧ R.2 28 m = nI a ∧ R.2 14 (R.1 12 - 1) = nI b ∧ b < R.1 1 ∧
    (chp (ch5 R (R.1 12) a D0) (R.1 12) x → (∀ h, h < D → rnP (rnL (ch6 R (R.1 12) a D0 x) (R.1 12) a h).1 (R.1 12) a h (rnL (ch6 R (R.1 12) a D0 x) (R.1 12) a h).2) ∧ (rnL (ch6 R (R.1 12) a D0 x) (R.1 12) a D).1.1 1 < 2600 ∧ ((rnL (ch6 R (R.1 12) a D0 x) (R.1 12) a D).2 ≠ -1 → noF (rnL (ch6 R (R.1 12) a D0 x) (R.1 12) a D).1 2 (rnL (ch6 R (R.1 12) a D0 x) (R.1 12) a D).2)) ∧
    wfF (ch7 R (R.1 12) a D0 x).1 ∧ ((ch7 R (R.1 12) a D0 x).1.1 1 + 3 ≤ 2600 ∧ R.1 1 ≤ (ch7 R (R.1 12) a D0 x).1.1 1) ∧ noF (ch7 R (R.1 12) a D0 x).1 6 (R.2 14 (R.1 12 - 1)) ∧ (ch7 R (R.1 12) a D0 x).1.1 7 + 2 * R.1 35 ≤ 3600 ∧
    ∀ n F O, J (cm7 S m x) (chE (rs (ch7 R (R.1 12) a D0 x).1 n F O) m (R.1 12) a D (ch7 R (R.1 12) a D0 x).2) ∧ sN (cm5 S m x) ≤ R.1 1 + 13 ∧ sR (cm5 S m x) ≤ sN (cm5 S m x) + (chE (rs (ch7 R (R.1 12) a D0 x).1 n F O) m (R.1 12) a D (ch7 R (R.1 12) a D0 x).2).1 7 := by
  obtain ⟨a, D0, hC, hk, ho⟩ := j_CH h hm hE hl
  obtain ⟨D, hA, hPH, hcp, hdp⟩ := j_PH h hC hk x
  obtain ⟨b, hb, hb14⟩ := (h.2.2.1 (R.1 12 - 1) (by have := h.1.1.2.1; omega)).2
  have hC0 := hC
  obtain ⟨⟨he1, -, hsE, -, -, ha, hQ9, hP9⟩, -, -, -, hTI0, -, hmb, ⟨-, h28⟩, -, -⟩ := hC
  obtain ⟨-, -, pc1, pc2, pc3, pc4, pc5⟩ := j_CF h hC0 x hA hPH hcp hdp hk 0 (fun _ => 0) (fun _ => 0)
  refine ⟨a, D0, D, b, hC0, hA, hPH, h28, hb14, hb, pc1, pc2, pc3, pc4, pc5, fun n F O => ?_⟩
  obtain ⟨hCF, hPI, -⟩ := j_CF h hC0 x hA hPH hcp hdp hk n F O
  have hJ := h
  obtain ⟨⟨⟨n1, n2, n3⟩, ⟨p1, p2⟩, ⟨q1, q2⟩, ⟨c1, c2, c3⟩, c4, c5⟩, -⟩ := h
  have hs28 := (hmb m hm).2.1
  have hD4 : D ≤ 4 := hPH.2.2.1.1
  have f5 := ch5_f R (R.1 12) a D0 hTI0.1
  have t9 := t9_f R (R.1 12) a D0 D x n F O hTI0.1 hD4 ha rfl hdp hA.1.2.2.2.2.2.2
  obtain ⟨e, ee⟩ : ∃ e, e = R.1 12 := ⟨_, rfl⟩
  rw [← ee] at hA hPH hCF hPI f5 t9 hk ho hsE hl hE he1 ⊢
  obtain ⟨X, eX⟩ : ∃ X, X = rs (ch7 R e a D0 x).1 n F O := ⟨_, rfl⟩
  obtain ⟨c, ec⟩ : ∃ c, c = (ch7 R e a D0 x).2 := ⟨_, rfl⟩
  rw [← eX, ← ec] at hCF hPI t9 ⊢
  have r7 := r7_f X m e a D c
  have lvm := lvL_m (ri (ch9 X e D c) 12 (e + 1)) e 16
  have lvf := lvL_f (ri (ch9 X e D c) 12 (e + 1)) e 16
  obtain ⟨T9, eT9⟩ : ∃ T9, T9 = ch9 X e D c := ⟨_, rfl⟩
  obtain ⟨V, eV⟩ : ∃ V, V = lvL (ri T9 12 (e + 1)) e 16 := ⟨_, rfl⟩
  obtain ⟨R7, eR7⟩ : ∃ R7, R7 = chE X m e a D c := ⟨_, rfl⟩
  have eR7V : R7 = ri (adR V m e a D (X.2 21 e)) 42 0 := by rw [eR7, eV, eT9]; rfl
  rw [← eT9] at hCF hPI t9 r7 lvm lvf
  rw [← eV] at lvm lvf
  rw [← eR7] at r7 ⊢
  obtain ⟨r7a, r7b, r7c, r7d⟩ := r7
  obtain ⟨t9a, t9b, t9c, t9d⟩ := t9
  obtain ⟨⟨F1, F2, F3⟩, ⟨F4, F5⟩, F6, F7, ⟨s, G1, G2, G3, -⟩, ⟨G4, G5⟩, G6, G7, G8, G9, G10, G11, G12⟩ := hCF
  have s7 := s7_f S m x
  have s5 := s5_f S m x
  have hcof := cof_cm5 S m x (by unfold sQ; simp [cm0, nwS])
  have hrl := rlx_cm5 S m x
  have f3 := cm3_f S m
  rw [hsE] at s5 hcof f3
  obtain ⟨S3, eS3⟩ : ∃ S3, S3 = cm3 S m := ⟨_, rfl⟩
  obtain ⟨S5, eS5⟩ : ∃ S5, S5 = cm5 S m x := ⟨_, rfl⟩
  obtain ⟨S7, eS7⟩ : ∃ S7, S7 = cm7 S m x := ⟨_, rfl⟩
  obtain ⟨T5, eT5⟩ : ∃ T5, T5 = ch5 R e a D0 := ⟨_, rfl⟩
  obtain ⟨T6, eT6⟩ : ∃ T6, T6 = ch6 R e a D0 x := ⟨_, rfl⟩
  have h6 : (∀ f, f ≠ 21 → T6.2 f = T5.2 f) ∧ T6.1 = R.1 := ⟨fun f hf => by rw [eT6, eT5]; simp [ch6, ra, hf], by rw [eT6]; exact f5.1⟩
  have h15 : T5.2 15 = upd (R.2 15) e (nI a) := by rw [eT5]; exact ch5_15 R e a D0 hTI0.1
  rw [← eS3] at hA hPH hPI F4 s5 f3
  rw [← eS5] at s5 s7 hcof hrl F1 F5 F6 G2 G4 G5 G6 G7 ⊢
  rw [← eS7] at s7 ⊢
  rw [← eT5] at hA f5 t9c
  rw [← eT6] at hPH hPI
  obtain ⟨s7a, s7b, s7c, s7d, s7e, s7o, s7m⟩ := s7
  obtain ⟨s5a, s5b, s5c, s5d, s5m, s5o⟩ := s5
  have sN7 : sN S7 = sN S5 := s7a 3 (by decide)
  have sR7 : sR S7 = sR S5 := s7a 4 (by decide)
  have r1 : R7.1 1 = T9.1 1 := r7a 1 (by decide) (by decide)
  have r77 : R7.1 7 = T9.1 7 := r7a 7 (by decide) (by decide)
  have rof7 : rof e R R7 := t9a.trans (rof.sm (r7d 22 (by decide) (by decide) (by decide) (by decide) (by decide) (by decide)) (r7d 23 (by decide) (by decide) (by decide) (by decide) (by decide) (by decide)) (r7d 24 (by decide) (by decide) (by decide) (by decide) (by decide) (by decide)) (r7d 26 (by decide) (by decide) (by decide) (by decide) (by decide) (by decide)) (fun f k1 k2 => r7d f (by omega) (by omega) (by omega) (by omega) (by omega) (by omega)))
  have cof7 : cof e S S7 := hcof.trans ⟨fun c9 f k1 _ => by rw [s7e c9 (by omega)], fun c9 f k1 k2 _ => by rw [s7d c9 k1 (by omega)], fun f _ => by rw [s7c], fun c9 k => s7d c9 (by omega) (by omega), s7a 1 (by decide)⟩
  have TE7 : TE S7 R7 e e D := by
    have e1 : rK R7 e = rK T9 e := by funext v; simp only [rK]; rw [r7d 22 (by decide) (by decide) (by decide) (by decide) (by decide) (by decide)]
    have e2 : rU R7 e = rU T9 e := by funext v; simp only [rU]; rw [r7d 23 (by decide) (by decide) (by decide) (by decide) (by decide) (by decide)]
    refine ⟨by rw [s7c]; exact F6.1, by rw [r7d 13 (by decide) (by decide) (by decide) (by decide) (by decide) (by decide)]; exact F6.2.1, fun v hv => ?_⟩
    rw [s7e 2 (by decide), s7e 3 (by decide), s7e 4 (by decide), e1, e2, r7d 24 (by decide) (by decide) (by decide) (by decide) (by decide) (by decide)]
    exact F6.2.2 v hv
  have kK7 : rK R7 e = rK T9 e := by funext v; simp only [rK]; rw [r7d 22 (by decide) (by decide) (by decide) (by decide) (by decide) (by decide)]
  have kU7 : rU R7 e = rU T9 e := by funext v; simp only [rU]; rw [r7d 23 (by decide) (by decide) (by decide) (by decide) (by decide) (by decide)]
  have t9R : ∀ f, f = 27 ∨ f = 28 ∨ f = 29 ∨ f = 31 ∨ f = 32 ∨ f = 33 ∨ f = 34 ∨ f = 36 ∨ f = 37 ∨ f = 38 ∨ f = 41 ∨ f = 5 ∨ f = 30 → T9.2 f = R.2 f := fun f hf => by
    rw [t9c f (by omega) (by omega) (by omega) (by omega) (by omega) (by omega) (by omega) (by omega) (by omega) (by omega) (by omega) (by omega) (by omega) (by omega) (by omega) (by omega) (by omega)]
    exact f5.2.1 f (by omega) (by omega) (by omega) (by omega) (by omega) (by omega) (by omega) (by omega) (by omega) (by omega) (by omega) (by omega) (by omega)
  have t95 : ∀ f, f = 13 ∨ f = 15 ∨ f = 17 ∨ f = 18 ∨ f = 19 ∨ f = 26 ∨ f = 39 ∨ f = 40 → R7.2 f = T5.2 f := fun f hf => by
    rw [r7d f (by omega) (by omega) (by omega) (by omega) (by omega) (by omega)]
    exact t9c f (by omega) (by omega) (by omega) (by omega) (by omega) (by omega) (by omega) (by omega) (by omega) (by omega) (by omega) (by omega) (by omega) (by omega) (by omega) (by omega) (by omega)
  have PI7 : PI S3 T6 e a D (R.1 1) R7 := PI_c hPI r1 r77 (fun f k1 k2 => r7d f (by omega) (by omega) (by omega) (by omega) (by omega) (by omega))
  -- members
  have v17 : ∀ q, lvQ (ri T9 12 (e + 1)) e q ↔ lvq R R7 e q := fun q => by
    unfold lvQ lvq
    show T9.2 27 q = nI (e - 1) ∧ ¬ T9.2 17 e &&& bitN (T9.2 28 q).toNatClampNeg = 0 ↔ _
    rw [t9R 27 (by omega), t9R 28 (by omega), r7d 17 (by decide) (by decide) (by decide) (by decide) (by decide) (by decide)]
  have hmn : ¬ lvq R R7 e m := fun q => by
    have := q.2
    rw [h28, nI_clamp (by omega), t95 17 (by omega)] at this
    exact this ((and_bit (by omega)).mpr hA.1.2.2.2.2.2.1)
  have hVm := (lvm m (by omega)).2 (fun q => hmn ((v17 m).mp q))
  have mv5 : ∀ q, q < 16 → (lvq R R7 e q → mv S5 q = mvL S q) ∧ (¬ lvq R R7 e q → mv S5 q = mv S q) := fun q hq => by
    have h9 := hA.1.2.2.2.2.1 q hq
    rw [s5m]
    unfold lvq
    rw [t95 17 (by omega)]
    exact h9
  have e6 : cm6 S m x = mvS S5 m e a := by
    rw [eS5]; unfold cm6
    rw [hsE, hs28, h28, nI_clamp (by omega)]
  have r7o : ∀ q, q < 16 → q ≠ m → R7.2 27 q = V.2 27 q ∧ R7.2 28 q = V.2 28 q ∧ R7.2 29 q = V.2 29 q ∧ R7.2 31 q = V.2 31 q ∧ R7.2 32 q = V.2 32 q ∧ ∀ v, v < 31 → R7.2 33 (31 * q + v) = V.2 33 (31 * q + v) := fun q hq hqm => by
    have af := adR_f V m e a D (X.2 21 e)
    have e7 : ∀ f, R7.2 f = (adR V m e a D (X.2 21 e)).2 f := fun f => by rw [eR7V]; rfl
    have hk9 : ∀ j, (j < 31 * m ∨ 31 * m + 31 ≤ j) → (adR V m e a D (X.2 21 e)).2 33 j = V.2 33 j := fun j hj => by
      have hk := (adK_c V m e a D ha hD4).2.2 j hj
      unfold adR
      by_cases w : X.2 21 e ≠ 0 ∧ 0 < D
      · rw [if_pos w, (tl_c (adK V m e a D) m e a 1 ha D (by omega)).2 j (fun i hi z => by have := pn_31 a ha i hi; omega)]; exact hk
      · rw [if_neg w]; exact hk
    have h3 : ∀ f, f = 27 ∨ f = 29 ∨ f = 31 → (adR V m e a D (X.2 21 e)).2 f q = V.2 f q := fun f hf => by
      have h0 : (adK V m e a D).2 f q = V.2 f q := by
        rcases hf with z | z | z <;> subst z <;> simp [adK, kpR, ad0, ra, upd, hqm]
      unfold adR
      by_cases w : X.2 21 e ≠ 0 ∧ 0 < D
      · rw [if_pos w, (tlR_f (adK V m e a D) m e a 1 D).2 f (by omega)]; exact h0
      · rw [if_neg w]; exact h0
    rw [e7 27, e7 28, e7 29, e7 31, e7 32, e7 33, af.2 28 (by decide) (by decide) (by decide) (by decide), af.2 32 (by decide) (by decide) (by decide) (by decide), h3 27 (by omega), h3 29 (by omega), h3 31 (by omega)]
    exact ⟨rfl, rfl, rfl, rfl, rfl, fun v hv => hk9 _ (by omega)⟩
  have vT : ∀ f, f ≠ 27 → f ≠ 28 → f ≠ 29 → f ≠ 31 → f ≠ 32 → f ≠ 33 → V.2 f = T9.2 f := fun f k1 k2 k3 k4 k5 k6 => lvf.2.1 f k1 k2 k3 k4 k5 k6
  have kKV : rK V e = rK R7 e := by rw [kK7]; funext v; simp only [rK]; rw [vT 22 (by decide) (by decide) (by decide) (by decide) (by decide) (by decide)]
  have v16 : V.2 16 e = R7.2 16 e := by rw [vT 16 (by decide) (by decide) (by decide) (by decide) (by decide) (by decide), r7d 16 (by decide) (by decide) (by decide) (by decide) (by decide) (by decide)]
  -- no bits at all without a path
  have hno : X.2 21 e = 0 → R7.2 16 e = 0 := fun z => by
    rw [t9d] at z
    rcases PI7 with ⟨w, -⟩ | ⟨-, w, -⟩
    · rw [r7d 21 (by decide) (by decide) (by decide) (by decide) (by decide) (by decide), z] at w; exact absurd w (by decide)
    · exact w
  have hbx : ∀ v, v < 32 → tb (R7.2 16 e) v = true → v < tW D := fun v hv hb => by
    rcases PI7 with ⟨-, X9, Y9, p9, hPA, -, w, -⟩ | ⟨-, w, -⟩
    · rw [w] at hb
      obtain ⟨i, i1, i2, i3⟩ := hPA.2.2.2.1.2.2.2.2 v hv hb
      subst i3
      exact pn_w1 D hD4 i i2 a hPH.1.2.1
    · rw [w, tb_0] at hb; cases hb
  have MX7 : MX S R e m a D S7 R7 := by
    refine ⟨fun q hq hqm => ?_, ?_, fun q hq hqm => ?_, ?_, ?_, ?_, ?_, ?_, fun i h1 h4 => ?_, fun v hv hn => ?_⟩
    · have e9 : mv S7 q = mv S5 q := by
        rw [s7m, e6]; simp [mv, mvS, mbS, st1, st2, stN, hqm]
      rw [e9]; exact mv5 q hq
    · have h9 := (mv5 m hm).2 hmn
      simp only [mv, Prod.mk.injEq] at h9
      obtain ⟨-, -, u2, u3, -, u5, u6⟩ := h9
      rw [s7m, e6, s7d 5 (by decide) (by decide), s7d 6 (by decide) (by decide), s7e 2 (by decide), ← u2, ← u3, ← u5, ← u6, ← F6.1]
      simp [mv, mvS, mbS, st1, st2, stN]
    · obtain ⟨z1, z2, z3, z4, z5, z6⟩ := r7o q hq hqm
      rw [z1, z2, z3, z4, z5]
      have h9 := lvm q (by omega)
      refine ⟨fun w => ?_, fun w => ?_⟩
      · obtain ⟨u1, u2, u3, u4, u5, u6⟩ := h9.1 ((v17 q).mpr w)
        exact ⟨u1, u2, u3, u4, u5, fun v hv => (z6 v hv).trans (u6 v hv)⟩
      · obtain ⟨u1, u2, u3, u4, u5, u6⟩ := h9.2 (fun n => w ((v17 q).mp n))
        refine ⟨u1.trans ?_, u2.trans ?_, u3.trans ?_, u4.trans ?_, u5.trans ?_, fun v hv => (z6 v hv).trans ((u6 v hv).trans ?_)⟩
        · show T9.2 27 q = _; rw [t9R 27 (by omega)]
        · show T9.2 28 q = _; rw [t9R 28 (by omega)]
        · show T9.2 29 q = _; rw [t9R 29 (by omega)]
        · show T9.2 31 q = _; rw [t9R 31 (by omega)]
        · show T9.2 32 q = _; rw [t9R 32 (by omega)]
        · show T9.2 33 (31 * q + v) = _; rw [t9R 33 (by omega)]
    all_goals
      have e7 : ∀ f, R7.2 f = (adR V m e a D (X.2 21 e)).2 f := fun f => by rw [eR7V]; rfl
      have hx7 : ∀ f, f ≠ 33 → (adR V m e a D (X.2 21 e)).2 f = (adK V m e a D).2 f := fun f hf => by
        unfold adR
        by_cases w : X.2 21 e ≠ 0 ∧ 0 < D
        · rw [if_pos w]; exact (tlR_f (adK V m e a D) m e a 1 D).2 f hf
        · rw [if_neg w]
    · rw [e7, hx7 27 (by decide)]; simp [adK, kpR, ad0, ra, upd]
    · rw [e7, hx7 28 (by decide)]
      show V.2 28 m = nI a
      rw [hVm.2.1]; show T9.2 28 m = nI a; rw [t9R 28 (by omega)]; exact h28
    · rw [e7, hx7 29 (by decide), ← kKV]
      show upd (V.2 29) m (V.2 22 (31 * e + 2 * a)) m = _
      simp [upd, rK]
    · rw [e7, hx7 31 (by decide)]; simp [adK, kpR, ad0, ra, upd]
    · rw [e7, hx7 32 (by decide)]
      show V.2 32 m = R.2 32 m
      rw [hVm.2.2.2.2.1]; show T9.2 32 m = R.2 32 m; rw [t9R 32 (by omega)]
    · rw [e7]
      have h31 := pn_31 a ha i h4
      have hV33 : V.2 33 (31 * m + pn a i) = R.2 33 (31 * m + pn a i) := (hVm.2.2.2.2.2 _ h31).trans (by show T9.2 33 _ = _; rw [t9R 33 (by omega)])
      have hK9 := (adK_c V m e a D ha hD4).1 i h1 h4
      rw [hV33, kKV] at hK9
      unfold mvk
      unfold adR
      by_cases w : X.2 21 e ≠ 0 ∧ 0 < D
      · rw [if_pos w, (tl_c (adK V m e a D) m e a 1 ha D (by omega)).1 i h4, hK9]
        have a16 : (adK V m e a D).2 16 e = R7.2 16 e := v16
        have aK : rK (adK V m e a D) e (pn a i) = rK R7 e (pn a i) := by rw [← kKV]; rfl
        rw [a16, aK]
        by_cases z : tb (R7.2 16 e) (pn a i) = true
        · have hlt := hbx _ (by omega) z
          have hi := hgt_tw D hD4 _ h31 hlt
          rw [hgt_pn i h4 a ha] at hi
          rw [if_pos ⟨by omega, z⟩, if_pos z]
          unfold tk; rw [if_pos hlt]
        · rw [if_neg (fun z9 => z z9.2), if_neg z]
      · rw [if_neg w, hK9]
        have hz : tb (R7.2 16 e) (pn a i) = false := by
          by_cases z : X.2 21 e = 0
          · rw [hno z, tb_0]
          · exact hi_bit ha hD4 hbx (by
              have : ¬ 0 < D := fun z9 => w ⟨z, z9⟩
              omega) h4
        rw [hz]; rfl
    · rw [e7]
      have hK9 := (adK_c V m e a D ha hD4).2.1 v hv hn
      unfold adR
      by_cases w : X.2 21 e ≠ 0 ∧ 0 < D
      · rw [if_pos w]
        by_cases z : v = 2 * a
        · rw [show 31 * m + v = 31 * m + pn a 0 by rw [pn_0, z], (tl_c (adK V m e a D) m e a 1 ha D (by omega)).1 0 (by omega), if_neg (fun z9 => by omega), pn_0, ← z]; exact hK9
        · rw [(tl_c (adK V m e a D) m e a 1 ha D (by omega)).2 _ (fun i hi z9 => by
            have h8 : v = pn a i := by omega
            by_cases z7 : i = 0
            · rw [z7, pn_0] at h8; exact z h8
            · exact hn i (by omega) hi h8)]; exact hK9
      · rw [if_neg w]; exact hK9
  have BX7 : BX S R e m a D S3 S7 T5 T6 R7 := by
    refine ⟨⟨ee, he1, hE, hm, ha⟩, hA, hPH, PI7, ⟨hk, ho, hl, h28⟩, ⟨by rw [s7a 0 (by decide)]; exact s5a, by rw [s7a 1 (by decide), s5b]; exact p1, s7b, by rw [sN7, F1, r1], r7b, by rw [r7a 35 (by decide) (by decide)]; exact t9b 35 (by decide) (by decide) (by decide), r7c⟩, ⟨by rw [r1]; exact F2, by rw [r1]; exact F3, by rw [r77]; exact F4, by rw [sR7, r1, r77]; exact F5⟩, rof7, cof7, G10.trans (enx.sm r77 (fun f k1 k2 => r7d f (by omega) (by omega) (by omega) (by omega) (by omega) (by omega))), fun f hf => by rw [r7d f (by omega) (by omega) (by omega) (by omega) (by omega) (by omega)]; exact t9R f (by omega), t95, h6, by rw [t95 15 (by omega), h15]; simp [upd], fun c9 hc9 => ?_, by rw [f3.2.2.2.2, hs28]; exact h28, TE7, by rw [kK7, kU7]; exact F7, ⟨s, by rw [r1]; exact G1, by rw [s7d 5 (by decide) (by decide)]; exact G2, by rw [r7d 14 (by decide) (by decide) (by decide) (by decide) (by decide) (by decide)]; exact G3⟩, ⟨by rw [s7d 6 (by decide) (by decide), r7d 16 (by decide) (by decide) (by decide) (by decide) (by decide) (by decide)]; exact G4, by rw [s7d 10 (by decide) (by decide), r7d 20 (by decide) (by decide) (by decide) (by decide) (by decide) (by decide)]; exact G5⟩, fun x9 y9 z9 => ?_, ?_, ?_, ?_, fun k k1 k2 => by rw [r7d 2 (by decide) (by decide) (by decide) (by decide) (by decide) (by decide)]; exact G11 k k1 (by rw [← r1]; exact k2), fun f hf k hk9 => by rw [r7d f (by omega) (by omega) (by omega) (by omega) (by omega) (by omega)]; exact G12 f hf k hk9, ?_, ⟨by rw [sR7]; exact hrl.1, fun j hj => ?_⟩, fun q hq => ⟨fun w => ?_, fun w => ?_⟩, ?_, ?_⟩
    · rw [s7d c9 (by omega) (by omega)]; exact s5d c9 (by omega) (by omega) (by omega) (by omega)
    · rw [ru_same (S := S5) sR7 (s7d 22 (by decide) (by decide)) (s7d 23 (by decide) (by decide)) (s7d 24 (by decide) (by decide)) x9 y9 z9, G6]
      exact (ruR_sm r1 r77 (fun f hf => r7d f (by omega) (by omega) (by omega) (by omega) (by omega) (by omega)) x9 y9 z9).symm
    · exact ord_same sR7 sN7 (s7d 22 (by decide) (by decide)) (s7d 23 (by decide) (by decide)) (s7d 24 (by decide) (by decide)) G7
    · exact wf_sm G8 r1 (r7d 2 (by decide) (by decide) (by decide) (by decide) (by decide) (by decide)) (r7d 3 (by decide) (by decide) (by decide) (by decide) (by decide) (by decide))
    · exact wfS_sm G9 r1 (r7d 2 (by decide) (by decide) (by decide) (by decide) (by decide) (by decide)) (r7d 4 (by decide) (by decide) (by decide) (by decide) (by decide) (by decide))
    · rw [s7o, sN7, sR7, s7d 22 (by decide) (by decide), s7d 23 (by decide) (by decide), s7d 24 (by decide) (by decide), s5o]
    · rw [s7d 22 (by decide) (by decide), s7d 23 (by decide) (by decide), s7d 24 (by decide) (by decide)]; exact hrl.2 j hj
    · have h9 := (MX7.1 q hq w.1).1 w.2
      simp only [mv, mvL, Prod.mk.injEq] at h9
      exact ⟨h9.2.2.2.2.1, ((MX7.2.2.1 q hq w.1).1 w.2).1⟩
    · have h9 := (MX7.1 q hq w.1).2 w.2
      simp only [mv, Prod.mk.injEq] at h9
      exact ⟨h9.2.2.2.2.1, ((MX7.2.2.1 q hq w.1).2 w.2).1⟩
    · have h9 := MX7.2.1
      simp only [mv, Prod.mk.injEq] at h9
      exact h9.2.2.2.2.1
    · exact MX7.2.2.2.1
  have a1 := j_com1 hJ BX7
  have a2 := j_com2 hJ hok BX7
  have a3 := jM_com hJ BX7 MX7
  refine ⟨⟨a1.1, a1.2.1, a1.2.2.1, a1.2.2.2.1, a3, a1.2.2.2.2.1, a1.2.2.2.2.2.1, a2.1, a2.2.1, a2.2.2.1, a1.2.2.2.2.2.2, a2.2.2.2⟩, by rw [F1]; exact F3, by rw [F1, r77]; exact F5⟩
