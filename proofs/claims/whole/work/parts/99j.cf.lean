/-! the end of a commit, from J -/
theorem rs_f (T : SR) (n : Nat) (F O : Nat → Int32) {f : Nat} (h1 : f ≠ 49) (h2 : f ≠ 50) : (rs T n F O).2 f = T.2 f := by simp [rs, ri, ra, h1, h2]
theorem kx_rs {X T : SR} (h : kx X T) (n : Nat) (F O : Nat → Int32) : kx X (rs T n F O) := h.trans (kx.sm rfl (fun f hf => rs_f T n F O (by omega) (by omega)))
theorem enx_rs {X T : SR} (h : enx X T) (n : Nat) (F O : Nat → Int32) : enx X (rs T n F O) := h.trans (enx.sm rfl (fun f k1 k2 => rs_f T n F O (by omega) (by omega)))
theorem PE_rs {S : SC} {T : SR} {e D N0 : Nat} {S4 : SC} {T7 : SR} {c : Int32} {cnt : Nat} {pkr : Int32 → Int32 → Int32 → Prop} (h : PE S T e D N0 S4 T7 c cnt pkr) (n : Nat) (F O : Nat → Int32) : PE S T e D N0 S4 (rs T7 n F O) c cnt pkr := by
  obtain ⟨h1, h2, h3, h4, h5, h6, h7, h8, h9, h10, h11⟩ := h
  exact ⟨h1, h2, h3, h4, h5, h6, h7, h8, h9, ⟨enx_rs h10.1 n F O, h10.2⟩, h11⟩
theorem j_CF {S : SC} {R : SR} (h : J S R) {m a D0 : Nat} (hC : CH S R (R.1 12) m a D0) (x : Int32) {D : Nat} (hA : AD S R (cm3 S m) (ch5 R (R.1 12) a D0) (R.1 12) a D) (hPH : PH (cm3 S m) (ch6 R (R.1 12) a D0 x) (R.1 12) a D (R.1 1)) (hcp : (cmp (cm3 S m) (R.1 12) x) ↔ chp (ch5 R (R.1 12) a D0) (R.1 12) x) (hdp : dp (ch5 R (R.1 12) a D0) (R.1 12) = D) (hka : rK R (R.1 12 - 1) (2 * a) ≠ -1) (n : Nat) (F O : Nat → Int32) :
    CF S R (R.1 12) D (cm3 S m) (cm5 S m x) (ch6 R (R.1 12) a D0 x) (ch9 (rs (ch7 R (R.1 12) a D0 x).1 n F O) (R.1 12) D (ch7 R (R.1 12) a D0 x).2) ∧ PI (cm3 S m) (ch6 R (R.1 12) a D0 x) (R.1 12) a D (R.1 1) (ch9 (rs (ch7 R (R.1 12) a D0 x).1 n F O) (R.1 12) D (ch7 R (R.1 12) a D0 x).2) ∧
    (chp (ch5 R (R.1 12) a D0) (R.1 12) x → (∀ h, h < D → rnP (rnL (ch6 R (R.1 12) a D0 x) (R.1 12) a h).1 (R.1 12) a h (rnL (ch6 R (R.1 12) a D0 x) (R.1 12) a h).2) ∧ (rnL (ch6 R (R.1 12) a D0 x) (R.1 12) a D).1.1 1 < 2600 ∧ ((rnL (ch6 R (R.1 12) a D0 x) (R.1 12) a D).2 ≠ -1 → noF (rnL (ch6 R (R.1 12) a D0 x) (R.1 12) a D).1 2 (rnL (ch6 R (R.1 12) a D0 x) (R.1 12) a D).2)) ∧
    wfF (ch7 R (R.1 12) a D0 x).1 ∧ ((ch7 R (R.1 12) a D0 x).1.1 1 + 3 ≤ 2600 ∧ R.1 1 ≤ (ch7 R (R.1 12) a D0 x).1.1 1) ∧ noF (ch7 R (R.1 12) a D0 x).1 6 (R.2 14 (R.1 12 - 1)) ∧ (ch7 R (R.1 12) a D0 x).1.1 7 + 2 * R.1 35 ≤ 3600 := by
  obtain ⟨⟨⟨n1, n2, n3⟩, ⟨p1, p2⟩, ⟨q1, q2⟩, ⟨c1, c2, c3⟩, c4, c5⟩, -, hX, -, -, ⟨hK, -⟩, -, -, ⟨w1, w2, w3, -, -⟩, -⟩ := h
  obtain ⟨⟨-, he60, hsE, -, hm, ha, hQ9, -⟩, -, -, -, hTI0, -, hmb, ⟨-, h28⟩, -, -⟩ := hC
  have hs1 := (hmb m hm).2.1
  obtain ⟨e, ee⟩ : ∃ e, e = R.1 12 := ⟨_, rfl⟩
  obtain ⟨b, hb, hb14⟩ := (hX (R.1 12 - 1) (by omega)).2
  have hsec0 := (hX (R.1 12 - 1) (by omega)).1.2.1
  have hucn := ucn_le (R.2 39) (R.1 35)
  rw [← ee] at hA hPH hcp hdp hka he60 hsE hb14 hsec0 w3 n2 n3 c3 c4 ⊢
  have f5 := ch5_f R e a D0 hTI0.1
  have f6 := ch6_f R e a D0 x hTI0.1
  have f7 := ch7_f R e a D0 x hTI0.1
  have f3 := cm3_f S m
  rw [hsE] at f3
  have hcof := cof_cm5 S m x (by unfold sQ; simp [cm0, nwS])
  obtain ⟨S3, eS3⟩ : ∃ S3, S3 = cm3 S m := ⟨_, rfl⟩
  obtain ⟨T5, eT5⟩ : ∃ T5, T5 = ch5 R e a D0 := ⟨_, rfl⟩
  obtain ⟨T6, eT6⟩ : ∃ T6, T6 = ch6 R e a D0 x := ⟨_, rfl⟩
  have e621 : T6.2 21 e = if chp T5 e x then 1 else 0 := by rw [eT6, eT5]; unfold ch6; rw [ra_at]; simp [upd]
  have hac : (S.2.1 1 m).toNatClampNeg = a := by rw [hs1, h28]; exact nI_clamp (by omega)
  have h4 : cm4 S m x = if chp T5 e x then mpS S3 e a D else (S3, 0) := by
    unfold cm4
    rw [hsE, ← eS3, hac]
    by_cases hc : chp T5 e x
    · rw [if_pos hc, if_pos (by rw [eS3]; exact hcp.mpr (by rw [← eT5]; exact hc)), eS3, hA.1.1.1]
    · rw [if_neg hc, if_neg (fun q => hc (by rw [eT5]; exact hcp.mp (by rw [← eS3]; exact q)))]
  have h7 : ch7 R e a D0 x = if chp T5 e x then (nmR (rnL T6 e a D).1 (rnL T6 e a D).2, nI ((rnL T6 e a D).1.1 1)) else (T6, 0) := by
    unfold ch7; rw [hdp, ← eT5, ← eT6]
  have h5 : cm5 S m x = opS (cm4 S m x).1 e (cm4 S m x).2 := by unfold cm5; rw [hsE]
  rw [h5]
  rw [← eT6] at f7 hPH ⊢
  rw [← eT5] at hA hcp f5 ⊢
  rw [← eS3] at hA hPH hcp f3 ⊢
  have h6f : ∀ f, f ≠ 13 → f ≠ 15 → f ≠ 17 → f ≠ 18 → f ≠ 19 → f ≠ 21 → f ≠ 22 → f ≠ 23 → f ≠ 24 → f ≠ 25 → f ≠ 26 → f ≠ 39 → f ≠ 40 → f ≠ 51 → T6.2 f = R.2 f := by rw [eT6]; exact f6.2
  have h61 : T6.1 = R.1 := by rw [eT6]; exact f6.1
  have t614 : T6.2 14 (e - 1) = nI b := by rw [h6f 14 (by decide) (by decide) (by decide) (by decide) (by decide) (by decide) (by decide) (by decide) (by decide) (by decide) (by decide) (by decide) (by decide) (by decide)]; exact hb14
  have hs35 : S3.2.1 5 (e - 1) = nI b := by
    have h9 : cof (sE S) S (cm3 S m) := ((((cof_nw S (sE S) _).trans ((cof_rmL _ _ _).trans (cof_sh _ _))).trans (cof_upL _ _ _)).trans (cof_adL _ _ _))
    rw [← eS3, hsE] at h9
    rw [h9.2.1 5 (e - 1) (by decide) (by decide) (by omega), hsec0]; exact hb14
  have hu9 : ∀ i l, i < T6.1 35 → T6.2 39 i = nI e → l < 16 → T6.2 40 i = nI l → a ≠ l ∧ rK T6 e (2 * l) ≠ -1 := fun i l hi h39 hl h40 => by
    have e39 : T6.2 39 = T5.2 39 := by rw [eT6, eT5]; simp [ch6, ra]
    have e40 : T6.2 40 = T5.2 40 := by rw [eT6, eT5]; simp [ch6, ra]
    have e22 : rK T6 e = rK T5 e := by rw [eT6, eT5]; funext v; simp [rK, ch6, ra]
    rw [h61] at hi
    rw [e39] at h39
    rw [e40] at h40
    rw [e22]
    obtain ⟨-, -, g⟩ := hA.2.1 i hi
    rcases g with g | ⟨-, -, l9, g1, g2, g3, g4, g5⟩
    · exfalso
      rw [g.1] at h39
      rcases (hK i hi).2.2.2.2 with g14 | ⟨f9, l9, u1, u2, u3, -⟩
      · rw [g14.1] at h39; exact nI_ne1 (by omega) h39.symm
      · rw [u3] at h39
        have := (nI_eq (by omega) (by omega)).mp h39
        omega
    · rw [g2] at h40
      have : l9 = l := (nI_eq (by omega) (by omega)).mp h40
      subst this
      have hPT := hA.1.2.2.2.1
      have hk1 := (hPT.2.2.2.1 l9 hl g5).1
      refine ⟨fun q => ?_, hk1⟩
      have := (hPT.2.2.1 a ha hka hA.1.2.2.2.2.2.1).2.1
      rw [q, g5] at this; cases this
  have hR9 : R.1 1 = R.1 1 ∧ R.1 7 = T6.1 7 ∧ enx R T6 ∧ sR S3 ≤ T6.1 1 + T6.1 7 := ⟨rfl, by rw [h61], enx.sm (by rw [h61]) (fun f k1 k2 => h6f f (by omega) (by omega) (by omega) (by omega) (by omega) (by omega) (by omega) (by omega) (by omega) (by omega) (by omega) (by omega) (by omega) (by omega)), by unfold sR; rw [f3.1, h61]; exact c5⟩
  have kx6 : kx R T6 := kx.sm (by rw [h61]) (fun f hf => h6f f (by omega) (by omega) (by omega) (by omega) (by omega) (by omega) (by omega) (by omega) (by omega) (by omega) (by omega) (by omega) (by omega) (by omega))
  have noX : ∀ Y : SR, kx R Y → noF Y 6 (R.2 14 (e - 1)) := fun Y hk i hi ⟨g1, g2, g3⟩ => by
    by_cases u : i < R.1 1
    · rw [hk.2.1 2 (by omega) i u] at g1
      rw [hk.2.1 3 (by omega) i u] at g2
      rw [hk.2.1 4 (by omega) i u] at g3
      exact w3 i u ⟨g1, g2, g3⟩
    · rcases hk.2.2 i (by omega) hi with q | q | q <;> rw [q] at g1 <;> exact absurd g1 (by decide)
  by_cases hc : chp T5 e x
  · rw [if_pos hc] at h4 h7 e621
    obtain ⟨hPE, ec, hN26, hno2⟩ := pe_path hPH
    obtain ⟨hPA, -, hrn⟩ := pa_all hPH D (Nat.le_refl _)
    obtain ⟨hsum, hfact⟩ := pk_sum hPH hPA hu9
    obtain ⟨T7, eT7⟩ : ∃ T7, T7 = nmR (rnL T6 e a D).1 (rnL T6 e a D).2 := ⟨_, rfl⟩
    rw [← eT7] at h7 hPE
    have hkx : kx R T7 := by rw [eT7]; exact kx6.trans ((kx_rnL T6 e a D).trans (kx_nm _ _))
    have rf := rnL_f T6 e a D
    have nf := nm_f (rnL T6 e a D).1 (rnL T6 e a D).2
    rw [← eT7] at nf
    have t7f : ∀ f, f ≠ 2 → f ≠ 3 → f ≠ 4 → f ≠ 8 → f ≠ 9 → f ≠ 10 → f ≠ 11 → f ≠ 16 → f ≠ 20 → f ≠ 25 → f ≠ 22 → f ≠ 23 → f ≠ 24 → T7.2 f = T6.2 f := fun f k1 k2 k3 k4 k5 k6 k7 k8 k9 k10 k11 k12 k13 => (nf.2.2 f k1 k2 k3).trans (rf.2 f k1 k2 k3 k4 k5 k6 k7 k8 k9 k10 k11 k12 k13)
    have t7i : ∀ f, f ≠ 1 → f ≠ 7 → T7.1 f = T6.1 f := fun f k1 k2 => (nf.1 f k1).trans (rf.1 f k1 k2)
    rw [h4, h7]
    dsimp only
    rw [← ec]
    have tqm : tq S3 (mpS S3 e a D).1 := (tq_mpL S3 e a D).trans (tq_nx _ _)
    have t721 : T7.2 21 e = 1 := by rw [t7f 21 (by decide) (by decide) (by decide) (by decide) (by decide) (by decide) (by decide) (by decide) (by decide) (by decide) (by decide) (by decide) (by decide)]; exact e621
    have t740 : T7.2 40 = T6.2 40 := t7f 40 (by decide) (by decide) (by decide) (by decide) (by decide) (by decide) (by decide) (by decide) (by decide) (by decide) (by decide) (by decide) (by decide)
    have t716 : T7.2 16 = (rnL T6 e a D).1.2 16 := nf.2.2 16 (by decide) (by decide) (by decide)
    have hwl : ∀ i, i < T6.1 35 → T6.2 39 i = nI e → ∃ l, l < 16 ∧ T6.2 40 i = nI l ∧ wlc T7 e D i = some (mt a l - 1) ∧ rsv (rK T6 e) (rU T6 e) (mt a l - 1) (sdn a (mt a l - 1)) ≠ [] ∧ mt a l ≤ D ∧ 1 ≤ mt a l ∧ ∀ j, j < 4 → (pn l j = sdn a j ↔ j = mt a l - 1) := fun i hi h39 => by
      obtain ⟨l, g1, g2, g3, g4⟩ := hfact i hi h39
      refine ⟨l, g1, g2, ?_, g4⟩
      unfold wlc
      rw [if_neg (by rw [t721]; decide), t740, g2, nI_clamp (by omega), t716]; exact g3
    obtain ⟨hp0, hpk⟩ := hPH.2.2.2.2.2.2.2.2.2.2.2.2.1
    have hmtu : ∀ i l, i < T6.1 35 → T6.2 39 i = nI e → l < 16 → T6.2 40 i = nI l → 1 ≤ mt a l → mt a l ≤ D → pn l (mt a l - 1 + 1) = pn a (mt a l - 1 + 1) := fun i l hi h39 hl h40 h1 h2 => by
      have hm4 := mt_b a ha l hl
      rw [Nat.sub_add_cancel h1]
      exact mt_u a ha l hl (mt a l) hm4.2 (Nat.le_refl _)
    refine ⟨?_, ?_, fun _ => ⟨fun j hj => hrn j hj, hN26, hno2⟩, hPE.2.2.2.2.1.1, ⟨by have := hPE.1.2.2; omega, hPE.1.2.1⟩, noX T7 hkx, by have := hPE.2.2.2.2.2.2.2.2.2.1.2; rw [h61] at this; omega⟩
    · have := fin_core (S := S) (R := R) (X := rs T7 n F O) hPH (PE_rs hPE n F O) (b := b) hb (by rw [tqm.2.2.2.1 5 (by decide) (by decide) (by decide)]; exact hs35) (by show T7.2 14 (e - 1) = nI b; rw [t7f 14 (by decide) (by decide) (by decide) (by decide) (by decide) (by decide) (by decide) (by decide) (by decide) (by decide) (by decide) (by decide) (by decide)]; exact t614) (by show T7.1 12 = e; rw [t7i 12 (by decide) (by decide), h61]; exact ee.symm) (by show T7.1 35 = T6.1 35; exact t7i 35 (by decide) (by decide)) (t7f 37 (by decide) (by decide) (by decide) (by decide) (by decide) (by decide) (by decide) (by decide) (by decide) (by decide) (by decide) (by decide) (by decide)) (t7f 39 (by decide) (by decide) (by decide) (by decide) (by decide) (by decide) (by decide) (by decide) (by decide) (by decide) (by decide) (by decide) (by decide)) t740 (tqm.2.2.2.1 14 (by decide) (by decide) (by decide)) (tqm.2.2.2.1 12 (by decide) (by decide) (by decide)) (tqm.2.2.1 1 (by decide) (by decide))
        (by
          rw [wcN_c (T := rs T7 n F O) (X := T7) rfl rfl rfl rfl, wcN_2 (S := S3) (T6.1 35) (fun i hi => by rw [(hpk i hi).1, t7f 39 (by decide) (by decide) (by decide) (by decide) (by decide) (by decide) (by decide) (by decide) (by decide) (by decide) (by decide) (by decide) (by decide)]) (fun i hi h39 => by
            rw [t7f 39 (by decide) (by decide) (by decide) (by decide) (by decide) (by decide) (by decide) (by decide) (by decide) (by decide) (by decide) (by decide) (by decide)] at h39
            obtain ⟨l, -, -, g3, -⟩ := hwl i hi h39
            rw [g3]; rfl), ← hp0, hsum]; omega) (by rw [hsum]; exact Nat.le_refl _)
        (fun x9 y9 z9 => by
          show (∃ i, i < T6.1 35 ∧ T6.2 39 i = nI e ∧ x9 = T6.2 37 i ∧ y9 = -1 ∧ ∃ h, wlc T7 e D i = some h ∧ z9 = T7.2 25 (31 * e + pn (T6.2 40 i).toNatClampNeg (h + 1))) ↔ _
          constructor
          · rintro ⟨i, g1, g2, g3, g4, h, g5, g6⟩
            obtain ⟨l, u1, u2, u3, u4, u5, u6, u7⟩ := hwl i g1 g2
            rw [u3] at g5
            have : h = mt a l - 1 := (Option.some.inj g5).symm
            subst this
            rw [u2, nI_clamp (by omega), hmtu i l g1 g2 u1 u2 u6 u5] at g6
            exact ⟨i, g1, g2, ⟨mt a l - 1, by omega, u4, by rw [u2, nI_clamp (by omega)]; exact (u7 _ (by have := hPH.2.2.1.1; omega)).mpr rfl, g6⟩, g3, g4⟩
          · rintro ⟨i, g1, g2, ⟨j, g5, g6, g7, g8⟩, g3, g4⟩
            obtain ⟨l, u1, u2, u3, u4, u5, u6, u7⟩ := hwl i g1 g2
            rw [u2, nI_clamp (by omega)] at g7
            have hj := (u7 j (by have := hPH.2.2.1.1; omega)).mp g7
            refine ⟨i, g1, g2, g3, g4, mt a l - 1, u3, ?_⟩
            rw [u2, nI_clamp (by omega), hmtu i l g1 g2 u1 u2 u6 u5, ← hj]; exact g8) hR9 (kx_rs hkx n F O)
      exact this
    · left
      obtain ⟨Y, eY⟩ : ∃ Y, Y = (rnL T6 e a D).1 := ⟨_, rfl⟩
      have c8 := ch8_f (rs T7 n F O) e (mpS S3 e a D).2
      have t812 : (ch8 (rs T7 n F O) e (mpS S3 e a D).2).1 12 = e := by rw [c8.1 12 (by decide)]; show T7.1 12 = e; rw [t7i 12 (by decide) (by decide), h61]; exact ee.symm
      have wf := wcR_f (ch8 (rs T7 n F O) e (mpS S3 e a D).2) e D (nI ((rs T7 n F O).1 1 + 1)) ((rs T7 n F O).1 35)
      have wx := (wc_A (ch8 (rs T7 n F O) e (mpS S3 e a D).2) e D (nI ((rs T7 n F O).1 1 + 1)) t812 ((rs T7 n F O).1 35)).2.2.2.1
      have e9 : wcR (ch8 (rs T7 n F O) e (mpS S3 e a D).2) e D (nI ((rs T7 n F O).1 1 + 1)) ((rs T7 n F O).1 35) = ch9 (rs T7 n F O) e D (mpS S3 e a D).2 := rfl
      rw [e9] at wf wx
      have t9f : ∀ f, f ≠ 2 → f ≠ 3 → f ≠ 4 → f ≠ 14 → f ≠ 8 → f ≠ 9 → f ≠ 10 → f ≠ 11 → f ≠ 20 → (ch9 (rs T7 n F O) e D (mpS S3 e a D).2).2 f = (rs T7 n F O).2 f := fun f k1 k2 k3 k4 k5 k6 k7 k8 k9 => (wf.2.1 f k5 k6 k7 k8 k9).trans (c8.2.1 f k1 k2 k3 k4)
      refine ⟨by rw [t9f 21 (by decide) (by decide) (by decide) (by decide) (by decide) (by decide) (by decide) (by decide) (by decide)]; exact t721, _, Y, _, by rw [eY]; exact hPA, fun v => ?_, ?_, ?_, ?_⟩
      · simp only [rK, rU]
        rw [t9f 22 (by decide) (by decide) (by decide) (by decide) (by decide) (by decide) (by decide) (by decide) (by decide), t9f 23 (by decide) (by decide) (by decide) (by decide) (by decide) (by decide) (by decide) (by decide) (by decide), eY]
        exact ⟨congrFun (nf.2.2 22 (by decide) (by decide) (by decide)) _, congrFun (nf.2.2 23 (by decide) (by decide) (by decide)) _⟩
      · rw [t9f 16 (by decide) (by decide) (by decide) (by decide) (by decide) (by decide) (by decide) (by decide) (by decide), eY]
        exact congrFun t716 e
      · rw [eY]
        have g1 : enx (rnL T6 e a D).1 T7 := enx.sm (nf.1 7 (by decide)) (fun f k1 k2 => nf.2.2 f (by omega) (by omega) (by omega))
        have g2 : enx T7 (ch8 (rs T7 n F O) e (mpS S3 e a D).2) := enx.sm (by rw [c8.1 7 (by decide)]; rfl) (fun f k1 k2 => by
          rw [c8.2.1 f (by omega) (by omega) (by omega) (by omega)]
          simp [rs, ri, ra, show f ≠ 50 by omega, show f ≠ 49 by omega])
        exact (g1.trans g2).trans wx
      · rw [wf.1 1 (by decide), c8.2.2, eY]
        show (rnL T6 e a D).1.1 1 + 1 ≤ T7.1 1 + 3
        rw [nf.2.1]; omega
  · rw [if_neg hc] at h4 h7 e621
    have hPE := pe_none hPH
    rw [h4, h7]
    dsimp only
    obtain ⟨hp0, hpk⟩ := hPH.2.2.2.2.2.2.2.2.2.2.2.2.1
    have hwl : ∀ i, wlc T6 e D i = none := fun i => by unfold wlc; rw [if_pos e621]
    refine ⟨?_, ?_, fun q => absurd q hc, hPE.2.2.2.2.1.1, ⟨by have := hPE.1.2.2; omega, hPE.1.2.1⟩, noX T6 kx6, by have := hPE.2.2.2.2.2.2.2.2.2.1.2; rw [h61]; omega⟩
    · have := fin_core (S := S) (R := R) (X := rs T6 n F O) hPH (PE_rs hPE n F O) (b := b) hb hs35 t614 (by show T6.1 12 = e; rw [h61]; exact ee.symm) rfl rfl rfl rfl rfl rfl rfl
        (by
          rw [wcN_c (T := rs T6 n F O) (X := T6) rfl rfl rfl rfl, wcN_1 (S := S3) (T6.1 35) (fun i hi => (hpk i hi).1) (fun i _ => hwl i), ← hp0]; rfl) (Nat.zero_le _)
        (fun x9 y9 z9 => by
          show (∃ i, i < T6.1 35 ∧ T6.2 39 i = nI e ∧ x9 = T6.2 37 i ∧ y9 = -1 ∧ ∃ h, wlc T6 e D i = some h ∧ z9 = T6.2 25 (31 * e + pn (T6.2 40 i).toNatClampNeg (h + 1))) ↔ False
          constructor
          · rintro ⟨i, g1, g2, g3, g4, h, g5, g6⟩
            rw [hwl i] at g5; cases g5
          · exact False.elim) hR9 (kx_rs kx6 n F O)
      exact this
    · right
      have c8 := ch8_f (rs T6 n F O) e 0
      have wf := wcR_f (ch8 (rs T6 n F O) e 0) e D (nI ((rs T6 n F O).1 1 + 1)) ((rs T6 n F O).1 35)
      have e9 : wcR (ch8 (rs T6 n F O) e 0) e D (nI ((rs T6 n F O).1 1 + 1)) ((rs T6 n F O).1 35) = ch9 (rs T6 n F O) e D 0 := rfl
      rw [e9] at wf
      have t9f : ∀ f, f ≠ 2 → f ≠ 3 → f ≠ 4 → f ≠ 14 → f ≠ 8 → f ≠ 9 → f ≠ 10 → f ≠ 11 → f ≠ 20 → (ch9 (rs T6 n F O) e D 0).2 f = (rs T6 n F O).2 f := fun f k1 k2 k3 k4 k5 k6 k7 k8 k9 => (wf.2.1 f k5 k6 k7 k8 k9).trans (c8.2.1 f k1 k2 k3 k4)
      refine ⟨by rw [t9f 21 (by decide) (by decide) (by decide) (by decide) (by decide) (by decide) (by decide) (by decide) (by decide)]; exact e621, by rw [t9f 16 (by decide) (by decide) (by decide) (by decide) (by decide) (by decide) (by decide) (by decide) (by decide)]; exact hPH.2.2.2.2.2.1.2, fun v => ?_⟩
      simp only [rK, rU]
      rw [t9f 22 (by decide) (by decide) (by decide) (by decide) (by decide) (by decide) (by decide) (by decide) (by decide), t9f 23 (by decide) (by decide) (by decide) (by decide) (by decide) (by decide) (by decide) (by decide) (by decide)]
      exact ⟨rfl, rfl⟩
