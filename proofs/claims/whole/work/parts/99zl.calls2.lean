/-! THE LAW: come, commit -/
theorem cf_0 (S : SC) (m f a : Nat) : (cfS S m f a).1 0 = S.1 0 := by
  unfold cfS
  split
  · funext b; simp [mbS, st2, stN, st1]
  · funext b; simp [lvS, mbS, st2, stN, st1]
section CC2
variable {l : Launch} {d : gh_D} {g : gh_H} {S : SC} {Z : ZC} {y : Nat → Nat} {R : SR} {f0 : Nat → Int64} {ao : Nat}
theorem cp_come (htr : l.flags = pinnedFlags ++ [noTraceFlag]) (x : Int32) (hA : cA g Z S (sE S)) (hR : rR g y R) (hJ : J S R) (h5 : g (50, 0) = some (ao, .inl (3, 1, .inr (.inl f0)))) : CP l d (Z 1 0) (y 0) ao mL_come [(0, 9, 12, 13), (0, 9, 15, 15)] mR_come [.int x] g S := by
  have hN := J_N hJ
  have hJ0 := hJ
  obtain ⟨⟨⟨n1, n2, n3⟩, ⟨p1, p2⟩, ⟨q1, q2⟩, ⟨c1, c2, c3⟩, a8, -⟩, -, hX, -, hM, hK, -⟩ := hJ0
  have hun := ucn_le (R.2 39) (R.1 35)
  by_cases hx : inn 16 x = true
  · obtain ⟨m, hm, rfl⟩ := in16 hx
    obtain ⟨⟨g1, g2, g3, g4, g5, -⟩, g7⟩ := hM m hm
    have hrefuse : ∀ (hc : gh_CT l d mG_come (rr 8 1 6) [.ref (Z 1 0), .int (nI m)] g "java/lang/IllegalStateException") (ht : coT R (nI m) = 2), CP l d (Z 1 0) (y 0) ao mL_come [(0, 9, 12, 13), (0, 9, 15, 15)] mR_come [.int (nI m)] g S := fun hc ht =>
      cp_thr hA hR hJ h5 (n := 2) (by omega) (t := 2) rfl (by decide) (hy_come (nI m) hA.1 h5 hc) (r_comeX l d g hR (nI m) n2 n3 p2 (by rw [ht]; decide)) (fun v g2 hp => ⟨⟨0, hp.1⟩, by rw [ht] at hp; exact hp.2⟩)
    rcases g7 with ⟨u1, -⟩ | ⟨e, l9, hi⟩
    · cases hnp : np R m (R.1 35) with
      | none =>
        refine hrefuse (t_come3 l htr d g hA m hm hN.2.1 (by rw [g1]; exact u1) (by rw [p1, ew_np hK m _ (Nat.le_refl _)]; exact hnp)) ?_
        unfold coT
        rw [if_pos hx, nI_clamp (by omega), if_pos (Or.inr ⟨u1, hnp⟩)]
      | some p =>
        obtain ⟨e, a, D, ⟨k1, k2, k3, k4, k5, k6, k7, k8, k9, k10, k11, k12, k13⟩, k14, k15⟩ := j_jn hJ hm u1 hnp
        have eE : ∀ b, (jnS S m p e a).1 0 b = S.1 0 b := fun b => by simp [jnS, mbS, st2, stN, st1]
        refine cp_ok (a := nI e) (S2 := jnS S m p e a) hR (n := 3) (by omega) (c := 0) (s := 0) (LB_st (by omega) (by omega) (bud_up (by rw [show sN (jnS S m p e a) = sN S from eE 3]; exact Nat.le_refl _) (by rw [show sR (jnS S m p e a) = sR S from eE 4]; exact Nat.le_refl _)) (eE 0)) (hk_come (nI m) hA.1 h5 (n := 4) (by omega) (c_comeJ l d g hA m p e a hm hN.2.1 hN.2.2.1 k13 k12 (by omega) k10 k11 (by rw [k7]; exact k4)) (fun v g1 hp => ⟨⟨_, hp.1⟩, hp.2.2 (50, 0) (by decide)⟩)) (fun v g0 hp => ⟨hp.1, Z, rfl, by rw [show sE (jnS S m p e a) = sE S from eE 0]; exact hp.2.1, hp.2.2⟩) (fun g1 h1 => ⟨_, r_comeJ l d g1 h1 m p e a D hm (by omega) n2 n3 p2 (by omega) k3 k6 k5 k8 k9 u1 hnp, fun v g2 hp => ⟨by rw [hp.1, k14], _, hp.2, ?_, k15⟩⟩)
        unfold jnR tlQ
        split
        · simp [jn0, lvR, lvR0, ra, ri]
        · rw [(tlR_f _ _ _ _ _ _).1]; simp [jn0, lvR, lvR0, ra, ri]
    · have hi0 := hi
      obtain ⟨i1, i2, i3, i4, -⟩ := hi
      by_cases hE : e + 1 = R.1 12
      · refine hrefuse (t_come2 l htr d g hA m hm hN.2.2.2.1 (by rw [g1, i1]; exact nI_ne1 (by omega)) (fun h => ?_)) ?_
        · rw [g1, i1, n1] at h
          have := (nI_ltI (by omega) (by omega)).mp h; omega
        · unfold coT
          rw [if_pos hx, nI_clamp (by omega), if_pos (Or.inl (by unfold latR; rw [i1, ← hE]; simp))]
      · have he : e + 1 < R.1 12 := by omega
        have x7 : S.2.1 7 (e + 1) = R.2 17 (e + 1) := (hX (e + 1) he).1.2.2.2.1
        have eE := cf_0 S m (e + 1) l9
        have hB : ∀ rem cb sb, LB S (rem + 1) cb sb → 0 ≤ cb ∧ 0 ≤ sb ∧ LB (cfS S m (e + 1) l9) rem (cb - 0) (sb - 0) := LB_st (by omega) (by omega) (bud_up (by unfold sN; rw [eE]; exact Nat.le_refl _) (by unfold sR; rw [eE]; exact Nat.le_refl _)) (by unfold sE; rw [eE])
        have hsE : sE (cfS S m (e + 1) l9) = sE S := by unfold sE; rw [eE]
        by_cases hrm : R.2 17 (e + 1) &&& bitN l9 = 0
        · obtain ⟨D, ⟨k1, k2, k3, k4, k5, k6, k7, k8⟩, k9, k10, k11, k12⟩ := j_fo hJ hm hi0 he hrm
          refine cp_ok (a := nI (e + 1)) (S2 := cfS S m (e + 1) l9) hR (n := 4) (by omega) (c := 0) (s := 0) hB (hk_come (nI m) hA.1 h5 (n := 10) (by omega) (c_comeF l d g hA m e l9 hm hN.2.2.1 k5 (by omega) k6 (fun _ => k2)) (fun v g1 hp => ⟨⟨_, hp.1⟩, hp.2.2 (50, 0) (by decide)⟩)) (fun v g0 hp => ⟨by rw [hp.1, k10], Z, rfl, by rw [hsE]; exact hp.2.1, hp.2.2⟩) (fun g1 h1 => ⟨_, r_comeF l d g1 h1 m e l9 D (S.1 1 m) hm n2 n3 p2 he i1 k1 k4 k3 k7 hrm g4 g5 (by omega) k9, fun v g2 hp => ⟨by rw [hp.1, k11], _, hp.2, ?_, k12⟩⟩)
          unfold foR tlQ
          have h46 := (foH_f (ri R 0 0) m (S.1 1 m) (e + 1) l9).1 0 (by decide)
          split
          · show (foH (ri R 0 0) m (S.1 1 m) (e + 1) l9).1 0 = 0
            rw [h46]; simp [ri]
          · rw [(tlR_f _ _ _ _ _ _).1]
            show (foH (ri R 0 0) m (S.1 1 m) (e + 1) l9).1 0 = 0
            rw [h46]; simp [ri]
        · have ec : cfS S m (e + 1) l9 = lvS S m := by unfold cfS; rw [x7, if_neg hrm]
          have el : (lvS S m).2.1 0 m = -1 := by simp [lvS, mbS, st2, stN, st1]
          refine cp_ok (a := -1) (S2 := cfS S m (e + 1) l9) hR (n := 4) (by omega) (c := 0) (s := 0) hB (hk_come (nI m) hA.1 h5 (n := 10) (by omega) (c_comeF l d g hA m e l9 hm hN.2.2.1 (by rw [g1]; exact i1) (by omega) (by rw [g2]; exact i4) (fun h => absurd (by rw [← x7]; exact h) hrm)) (fun v g1 hp => ⟨⟨_, hp.1⟩, hp.2.2 (50, 0) (by decide)⟩)) (fun v g0 hp => ⟨by rw [hp.1, ec, el], Z, rfl, by rw [hsE]; exact hp.2.1, hp.2.2⟩) (fun g1 h1 => ⟨_, r_comeO l d g1 h1 m e l9 hm n2 n3 p2 he i1 i3 i4 hrm, fun v g2 hp => ⟨?_, _, hp.2, ?_, ?_⟩⟩)
          · rw [hp.1]; simp [lvR, lvR0, ra, upd]
          · simp [lvR, lvR0, ra, ri]
          · rw [ec]; exact j_lv hJ hm i1 he
  · have ht : coT R x = 1 := by unfold coT; rw [if_neg hx]
    exact cp_thr hA hR hJ h5 (n := 2) (by omega) (t := 1) rfl (by decide) (hx_come x hA.1 h5 (t_come1 l htr d g hA x hx)) (r_comeX l d g hR x n2 n3 p2 (by rw [ht]; decide)) (fun v g2 hp => ⟨⟨0, hp.1⟩, by rw [ht] at hp; exact hp.2⟩)
theorem lf_D {D : Nat} {K U : Nat → Int32} (h : TI D K U) {l : Nat} (hl : l < 16) (hk : K (2 * l) ≠ -1) : l < 2 ^ D := by
  by_cases w : tW D ≤ 2 * l
  · exact absurd ((h.2 (2 * l) (by omega)).1 w) hk
  · unfold tW at w
    have := p2pos (D + 1)
    rw [Nat.pow_succ] at w; omega
theorem j_cmOk {S : SC} {R : SR} (hJ : J S R) {m a D0 D : Nat} {x : Int32} (hC : CH S R (R.1 12) m a D0) (hA : AD S R (cm3 S m) (ch5 R (R.1 12) a D0) (R.1 12) a D) (hP : PH (cm3 S m) (ch6 R (R.1 12) a D0 x) (R.1 12) a D (R.1 1)) (hE : R.1 12 < 60) (h27 : R.2 27 m = nI (R.1 12 - 1)) (hb : sN (cm5 S m x) + 10 ≤ 4096 ∧ sR (cm5 S m x) + 100 ≤ 4096) : cmOk S m a x := by
  have hN := J_N hJ
  obtain ⟨D2, hM, -, -⟩ := cm_mid hC
  obtain ⟨⟨he1, he60, hsE, -, hm, ha, hQ, hPp⟩, -, -, -, hTI0, hOI0, hmb, ⟨-, h28⟩, hpr, hpk⟩ := hC
  obtain ⟨⟨m1, -⟩, ⟨m2, -⟩, -, hPT, hmv, hta, -⟩ := hM
  obtain ⟨⟨⟨a1, -⟩, -⟩, hpk2, -⟩ := hA
  have uq2 : uq (cm1 S m) (cm2 S m) := uq_upL _ _ _
  have e1 : (cm1 S m).1 2 (sE S) = D2 := by rw [← m1, hsE, uq2.1]
  have e7 : (cm1 S m).2.1 7 (sE S) = (ch4 R (R.1 12) a D0).2 17 (R.1 12) := by rw [← m2, hsE, uq2.2.1 7 (by decide)]
  refine ⟨by omega, by omega, hm, by unfold lat; rw [(hmb m hm).1, h27, hsE]; simp, hN.2.2.2.2.1, hN.2.1, ⟨ha, by rw [(hmb m hm).2.1]; exact h28⟩, fun i hi h1 => ?_, fun i hi h2 => ?_, fun i hi h0 => ?_, fun p hp => ?_, ?_, ?_, fun i hi h14 => ?_, hb.1, hb.2⟩
  · obtain ⟨o1, -, -, o4, -, o6, -⟩ := hpr i (by omega)
    rw [o1] at h1
    obtain ⟨b, b1, b2⟩ := o6 h1
    exact ⟨b, b1, by rw [o4 (by rw [h1]; decide)]; exact b2⟩
  · obtain ⟨o1, ⟨q, w1, w2, w3⟩, -, -, o5, -⟩ := hpr i (by omega)
    rw [o1] at h2
    obtain ⟨o51, -⟩ := o5 h2
    rw [w2, nI_clamp (by omega)] at o51
    obtain ⟨l, l1, l2, l3⟩ := (hmb q w1).2.2 w3
    refine ⟨l, l1, by rw [o51]; exact l2, fun _ h7 => ?_⟩
    rw [e7] at h7
    rw [e1]
    have hk0 : rK R (R.1 12 - 1) (2 * l) ≠ -1 := fun w => by
      have := ((hOI0.1 l l1).1).mpr w
      rw [l3] at this; exact absurd this (nI_ne1 (by omega))
    exact lf_D hPT.1 l1 (hPT.2.2.1 l l1 hk0 ((and_bit (by omega)).mp h7)).2.2.1
  · obtain ⟨o1, -, -, o4, -, -, o7⟩ := hpr i (by omega)
    rw [o1] at h0
    obtain ⟨p, b1, b2⟩ := o7 h0
    exact ⟨p, by omega, by rw [o4 (by rw [h0]; decide)]; exact b2⟩
  · obtain ⟨o1, -, -, -, ⟨q, w1, w2⟩, -⟩ := hpk p (by omega)
    exact ⟨q, w1, by rw [o1]; exact w2⟩
  · have := (hmv m hm).2 (fun h => h.2 (by rw [h28, nI_clamp (by omega)]; exact (and_bit (by omega)).mpr hta))
    have e9 : (cm2 S m).2.1 1 m = S.2.1 1 m := by
      simp only [mv, Prod.mk.injEq] at this
      exact this.2.1
    rw [← uq2.2.1 1 (by decide), e9, (hmb m hm).2.1]; exact h28
  · rw [hsE, a1]; exact hP.1.2.1
  · rw [hsE] at h14
    obtain ⟨o1, o2, o3⟩ := hpk2 i (by omega)
    rw [o1] at h14
    rcases o3 with ⟨o3, -⟩ | ⟨-, -, l, l1, l2, -⟩
    · rw [h14] at o3
      exact absurd o3.symm (hpk i (by omega)).2.2.2.2.2.2.1
    · exact ⟨l, l1, by rw [o2 (by rw [h14]; exact nI_ne1 (by omega))]; exact l2⟩
theorem cp_commit (htr : l.flags = pinnedFlags ++ [noTraceFlag]) (x w : Int32) (hA : cA g Z S (sE S)) (hR : rR g y R) (hJ : J S R) (h5 : g (50, 0) = some (ao, .inl (3, 1, .inr (.inl f0)))) : CP l d (Z 1 0) (y 0) ao mL_commit [(0, 10, 13, 13), (0, 10, 17, 15)] mR_commit [.int x, .int w] g S := by
  have hN := J_N hJ
  have hok : okC S := hA.2.2.2.2.2.2.2.2
  have hJ0 := hJ
  obtain ⟨⟨⟨n1, n2, n3⟩, ⟨p1, p2⟩, ⟨q1, q2⟩, ⟨c1, c2, c3⟩, a8, -⟩, -, -, -, hM, -⟩ := hJ0
  by_cases hx : inn 16 x = true
  · obtain ⟨m, hm, rfl⟩ := in16 hx
    by_cases hl : lat S m = true ∧ sE S < 60
    · have hlR : latR R m = true := by rw [← lat_R hJ hm]; exact hl.1
      have h27 : R.2 27 m = nI (R.1 12 - 1) := by unfold latR at hlR; simpa using hlR
      have hE : R.1 12 < 60 := by omega
      obtain ⟨R0, eR0⟩ : ∃ R0, R0 = ri R 0 0 := ⟨_, rfl⟩
      have hJ1 : J S R0 := by rw [eR0]; exact J_ri hJ 0
      have f12 : R0.1 12 = R.1 12 := by rw [eR0]; rfl
      have f1 : R0.1 1 = R.1 1 := by rw [eR0]; rfl
      have f35 : R0.1 35 = R.1 35 := by rw [eR0]; rfl
      have f42 : R0.1 42 = R.1 42 := by rw [eR0]; rfl
      have f2 : R0.2 = R.2 := by rw [eR0]; rfl
      have f0z : R0.1 0 = 0 := by rw [eR0]; simp [ri]
      obtain ⟨a, D0, D, b, hC, hAD, hPH, h28, h14, hb, j1, j2, ⟨j3, j3'⟩, j4, j5, j6⟩ := j_com hJ1 hok hm (by rw [f12]; exact hE) (by rw [f12, f2]; exact h27) w
      have hD04 : D0 ≤ 4 := hC.2.2.2.2.1.1
      have hD4 : D ≤ 4 := hPH.2.2.1.1
      have f7 := (ch7_f R0 (R0.1 12) a D0 w hD04).1 0 (by decide) (by decide)
      have s7 := s7_f S m w
      have s5 := s5_f S m w
      have eE : sE (cm7 S m w) = sE S + 1 := (s7.1 0 (by decide)).trans s5.1
      have eN : sN (cm7 S m w) = sN (cm5 S m w) := s7.1 3 (by decide)
      have eR : sR (cm7 S m w) = sR (cm5 S m w) := s7.1 4 (by decide)
      -- the new state's numbers
      have num : sN S ≤ sN (cm5 S m w) ∧ sN (cm5 S m w) ≤ 2100 ∧ sR (cm5 S m w) ≤ 3800 := by
        have hj := (j6 0 (fun _ => 0) (fun _ => 0)).1
        obtain ⟨W, eW⟩ : ∃ W, W = chE (rs (ch7 R0 (R0.1 12) a D0 w).1 0 (fun _ => 0) (fun _ => 0)) m (R0.1 12) a D (ch7 R0 (R0.1 12) a D0 w).2 := ⟨_, rfl⟩
        rw [← eW] at hj
        have hw1 : R.1 1 ≤ W.1 1 := by
          rw [eW, (r7_f _ m (R0.1 12) a D _).1 1 (by decide) (by decide)]
          unfold ch9
          rw [(wcR_f _ _ _ _ _).1 1 (by decide), (ch8_f _ _ _).2.2]
          have : (rs (ch7 R0 (R0.1 12) a D0 w).1 0 (fun _ => 0) (fun _ => 0)).1 1 = (ch7 R0 (R0.1 12) a D0 w).1.1 1 := by simp [rs, ra, ri]
          rw [this]; omega
        obtain ⟨⟨⟨v1, v2, v3⟩, ⟨v4, v5⟩, ⟨v6, v7⟩, ⟨v8, v9, v10⟩, v11, v12⟩, -⟩ := hj
        have hun := ucn_le (W.2 39) (W.1 35)
        rw [eN] at v8
        rw [eR] at v12
        refine ⟨by omega, by omega, by omega⟩
      have ok : cmOk S m a w := j_cmOk hJ1 hC hAD hPH (by rw [f12]; exact hE) (by rw [f12, f2]; exact h27) ⟨by omega, by omega⟩
      have eb : bud (cm7 S m w) = bud (cm5 S m w) := bud_eq eN eR
      have hC0 := hC
      obtain ⟨⟨k1, k2, k3, -, -, ka, k7, k8⟩, -, ⟨-, k13, -⟩, -, -, -, kmb, ⟨k27, k28⟩, kpr, kpk⟩ := hC0
      have hA0 := hAD
      obtain ⟨⟨⟨-, g13, -⟩, -, -, -, -, hta, -⟩, hpk2, -⟩ := hA0
      refine cp_ok (a := nI (sE S)) (S2 := cm7 S m w) hR (n := 5) (by omega) (LB_cm (Nat.le_refl _) (by rw [eb]; exact Nat.le_refl _) (bud_up (by rw [eN]; exact num.1) (by rw [eR]; exact (rlx_cm5 S m w).1)) eE hl.2) (hk_commit (nI m) w hA.1 h5 (n := 10) (by omega) (c_commit l d g hA m a w ok) (fun v g1 hp => ⟨⟨_, hp.1⟩, by obtain ⟨-, Z1, -, -, hf⟩ := hp; exact hf (50, 0) (by decide)⟩)) (fun v g0 hp => ⟨hp.1, ?_⟩) (fun g1 h1 => ?_)
      · obtain ⟨-, Z1, z1, hA1, hf⟩ := hp
        exact ⟨Z1, z1, by rw [eE]; exact hA1, hf⟩
      · rw [f12] at *
        have hr := r_commit l d g1 h1 m (R.1 12) a D0 D b w hm n2 hE rfl (by rw [← f2]; exact h28) ka (by rw [← f2]; exact k13) hD04 q2 p2
          (fun i hi h0 => by
            rw [← f42] at hi
            rw [← f2] at h0 ⊢
            obtain ⟨p, w1, w2⟩ := (kpr i hi).2.2.2.2.2.2 h0
            obtain ⟨q, w3, w4⟩ := (kpk p w1).2.2.2.2.1
            exact ⟨p, q, by omega, w2, w3, w4⟩)
          (fun i hi h0 => by
            rw [← f42] at hi
            rw [← f2] at h0 ⊢
            exact (kpr i hi).2.2.2.2.2.1 h0)
          (fun i hi => by
            rw [← f42] at hi
            rw [← f2]
            obtain ⟨q, w1, w2, -⟩ := (kpr i hi).2.1
            exact ⟨q, w1, w2⟩)
          (fun i hi h0 => by
            rw [← f42] at hi
            rw [← f2] at h0 ⊢
            obtain ⟨q, w1, w2, w3⟩ := (kpr i hi).2.1
            obtain ⟨c, w4, w5, -⟩ := (kmb q w1).2.2 w3
            exact ⟨c, w4, by rw [w2, nI_clamp (by omega)]; exact w5⟩)
          (fun q hq h0 => by
            rw [← f2] at h0 ⊢
            obtain ⟨c, w4, w5, -⟩ := (kmb q hq).2.2 h0
            exact ⟨c, w4, w5⟩)
          (by rw [← eR0]; exact g13) hD4 (by omega) (by rw [← eR0]; exact j1) (by rw [← eR0]; exact j2) (by rw [← eR0]; exact j3) (by rw [← f2]; exact h14) (by rw [← eR0]; omega) (by rw [← eR0, ← h14]; exact j4) (by rw [← eR0, ← f35]; exact j5)
          (fun p hp h39 => by
            rw [← eR0] at h39 ⊢
            obtain ⟨o1, o2, o3⟩ := hpk2 p (by rw [f35]; exact hp)
            rcases o3 with ⟨o3, -⟩ | ⟨-, -, c, l1, l2, -⟩
            · rw [h39] at o3
              exact absurd o3.symm (kpk p (by rw [f35]; exact hp)).2.2.2.2.2.2.1
            · exact ⟨c, l1, l2⟩)
          (by rw [← eR0]; exact (and_bit (by omega)).mpr hta) h27
        refine ⟨_, hr, fun v g2 hp => ?_⟩
        obtain ⟨hv, n, F, O, hq⟩ := hp
        refine ⟨by rw [hv, n1], _, hq, ?_, ?_⟩
        · rw [← eR0, (r7_f _ m (R.1 12) a D _).1 0 (by decide) (by decide), (ch9_f _ _ _ _).1 0 (by decide) (by decide)]
          have : (rs (ch7 R0 (R.1 12) a D0 w).1 n F O).1 0 = (ch7 R0 (R.1 12) a D0 w).1.1 0 := by simp [rs, ra, ri]
          rw [this, f7]; exact f0z
        · rw [← eR0]; exact (j6 n F O).1
    · have hl0 : ¬ (latR R m = true ∧ R.1 12 ≠ 60) := fun h => hl ⟨by rw [lat_R hJ hm]; exact h.1, by omega⟩
      have ht : cmT R (nI m) = 2 := by
        unfold cmT
        rw [if_pos hx, nI_clamp (by omega), if_neg hl0]
      exact cp_thr hA hR hJ h5 (n := 5) (by omega) (t := 2) rfl (by decide) (hy_commit (nI m) w hA.1 h5 (t_commit2 l htr d g hA m w hm hN.2.2.2.1 hN.2.2.1 hl)) (r_commitX l d g hR (nI m) w n2 n3 (by rw [ht]; decide)) (fun v g2 hp => ⟨⟨0, hp.1⟩, by rw [ht] at hp; exact hp.2⟩)
  · have ht : cmT R x = 1 := by unfold cmT; rw [if_neg hx]
    exact cp_thr hA hR hJ h5 (n := 5) (by omega) (t := 1) rfl (by decide) (hx_commit x w hA.1 h5 (t_commit1 l htr d g hA x w hx)) (r_commitX l d g hR x w n2 n3 (by rw [ht]; decide)) (fun v g2 hp => ⟨⟨0, hp.1⟩, by rw [ht] at hp; exact hp.2⟩)
end CC2
