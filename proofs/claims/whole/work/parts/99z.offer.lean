/-! J behind offer -/
theorem j_off {S : SC} {R : SR} (h : J S R) (hok : okC S) {m : Nat} (hm : m < 16) (hP60 : R.1 35 < 60) : J (ofS S m) (ofR R m) := by
  have hJ := h
  obtain ⟨⟨⟨n1, n2, n3⟩, ⟨p1, p2⟩, ⟨a3, a4⟩, ⟨a5, a6, a7⟩, a8, a9⟩, hZ, hX, ⟨hT, hO⟩, hM, ⟨hK, hKo⟩, ⟨hP, hPd⟩, ⟨ρ, l1, l2, l3, l4, l5, l6, l7⟩, ⟨w1, w2, w3, -, -⟩, -, hH, hF⟩ := h
  obtain ⟨T, eT⟩ : ∃ T, T = ofS S m := ⟨_, rfl⟩
  obtain ⟨W, eW⟩ : ∃ W, W = ofR R m := ⟨_, rfl⟩
  rw [← eT, ← eW]
  have inj : ∀ {p q : Nat}, p < 2600 → q < 2600 → nI p = nI q → p = q := fun hp hq e => (nI_eq (by omega) (by omega)).mp e
  have W1 : W.1 1 = R.1 1 + 2 := by rw [eW]; simp [ofR, mkR, ra, ri]
  have W35 : W.1 35 = R.1 35 + 1 := by rw [eW]; simp [ofR, mkR, ra, ri]
  have Wi : ∀ f, f ≠ 0 → f ≠ 1 → f ≠ 35 → W.1 f = R.1 f := fun f k0 k1 k2 => by rw [eW]; simp [ofR, mkR, ra, ri, k0, k1, k2]
  have Wf : ∀ f, f ≠ 2 → f ≠ 3 → f ≠ 4 → f ≠ 36 → f ≠ 37 → f ≠ 38 → f ≠ 39 → W.2 f = R.2 f := fun f k1 k2 k3 k4 k5 k6 k7 => by rw [eW]; simp [ofR, mkR, ra, ri, k1, k2, k3, k4, k5, k6, k7]
  have Wk : ∀ f, f = 2 ∨ f = 3 ∨ f = 4 → W.2 f = (mkR (mkR R 1 0 0) 1 0 0).2 f := fun f hf => by rw [eW]; rcases hf with q | q | q <;> subst q <;> simp [ofR, mkR, ra, ri]
  have W36 : ∀ p, W.2 36 p = if p = R.1 35 then nI m else R.2 36 p := fun p => by rw [eW]; simp [ofR, mkR, ra, ri, upd]
  have W37 : ∀ p, W.2 37 p = if p = R.1 35 then nI (R.1 1) else R.2 37 p := fun p => by rw [eW]; simp [ofR, mkR, ra, ri, upd]
  have W38 : ∀ p, W.2 38 p = if p = R.1 35 then nI (R.1 1 + 1) else R.2 38 p := fun p => by rw [eW]; simp [ofR, mkR, ra, ri, upd]
  have W39 : ∀ p, W.2 39 p = if p = R.1 35 then -1 else R.2 39 p := fun p => by rw [eW]; simp [ofR, mkR, ra, ri, upd]
  have mm1 : (mkR (mkR R 1 0 0) 1 0 0).1 1 = R.1 1 + 2 := by simp [mkR, ra, ri]
  have mm7 : (mkR (mkR R 1 0 0) 1 0 0).1 7 = R.1 7 := by simp [mkR, ra, ri]
  have TN : sN T = sN S + 2 := by rw [eT]; simp [ofS, frS, sN, stN, st1]
  have TR : sR T = sR S := by rw [eT]; simp [ofS, frS, sR, stN, st1]
  have TE9 : sE T = sE S := by rw [eT]; simp [ofS, frS, sE, stN, st1]
  have TP : sP T = sP S + 1 := by rw [eT]; simp [ofS, frS, sP, stN, st1]
  have TQ : sQ T = sQ S := by rw [eT]; simp [ofS, frS, sQ, stN, st1]
  have T1 : T.1 1 = S.1 1 := by rw [eT]; funext i; simp [ofS, frS, stN, st1]
  have T2 : T.1 2 = S.1 2 := by rw [eT]; funext i; simp [ofS, frS, stN, st1]
  have T22 : T.2.2 = S.2.2 := by rw [eT]; rfl
  have Tc : ∀ c, c < 11 ∨ 16 < c → T.2.1 c = S.2.1 c := fun c hc => by rw [eT]; funext i; simp [ofS, frS, stN, st1, show c ≠ 11 by omega, show c ≠ 12 by omega, show c ≠ 13 by omega, show c ≠ 14 by omega, show c ≠ 15 by omega, show c ≠ 16 by omega]
  have Tp : ∀ c p, p ≠ R.1 35 → T.2.1 c p = S.2.1 c p := fun c p hp => by
    have : p ≠ S.1 0 1 := by rw [show S.1 0 1 = R.1 35 from p1]; exact hp
    rw [eT]; simp [ofS, frS, stN, st1, sP, this]
  have TP0 : T.2.1 11 (R.1 35) = nI m ∧ T.2.1 12 (R.1 35) = nI (R.1 1) ∧ T.2.1 13 (R.1 35) = nI (R.1 1 + 1) ∧ T.2.1 14 (R.1 35) = -1 ∧ T.2.1 16 (R.1 35) = 0 := by
    rw [eT, ← p1, ← a5]; simp [ofS, frS, stN, st1, sP, sN]
  have kK : ∀ e v, rK W e v = rK R e v := fun e v => by simp only [rK]; rw [Wf 22 (by decide) (by decide) (by decide) (by decide) (by decide) (by decide) (by decide)]
  have kU : ∀ e v, rU W e v = rU R e v := fun e v => by simp only [rU]; rw [Wf 23 (by decide) (by decide) (by decide) (by decide) (by decide) (by decide) (by decide)]
  have ko : ∀ e l, ow W e l = ow R e l := fun e l => by simp only [ow]; rw [Wf 26 (by decide) (by decide) (by decide) (by decide) (by decide) (by decide) (by decide)]
  have F : ∀ f, f = 5 ∨ (13 ≤ f ∧ f ≤ 35) ∨ (40 ≤ f ∧ f ≤ 46) → W.2 f = R.2 f := fun f hf => Wf f (by omega) (by omega) (by omega) (by omega) (by omega) (by omega) (by omega)
  have I12 : W.1 12 = R.1 12 := Wi 12 (by decide) (by decide) (by decide)
  have I42 : W.1 42 = R.1 42 := Wi 42 (by decide) (by decide) (by decide)
  have I7 : W.1 7 = R.1 7 := Wi 7 (by decide) (by decide) (by decide)
  have enxW : enx R W := enx.sm I7 (fun f k1 k2 => Wf f (by omega) (by omega) (by omega) (by omega) (by omega) (by omega) (by omega))
  have hfr := j_fr (T := T) (W := W) hJ I12 (fun f k1 k2 k3 => F f (by omega)) T2 (fun c hc => by rw [T22]) (fun c hc => Tc c (by omega)) (by omega) enxW
  have hS := jC_same (T := T) (W := W) hJ hok (by rw [TN, W1, a5]) (by omega) (by omega) TR (Tc 22 (by omega)) (Tc 23 (by omega)) (Tc 24 (by omega)) (Tc 21 (by omega)) (fun x y z => by
    rw [ruR_sm (X := mkR (mkR R 1 0 0) 1 0 0) (by rw [W1, mm1]) (by rw [I7, mm7]) (fun f hf => by
      rcases (show (f = 2 ∨ f = 3 ∨ f = 4) ∨ (f = 8 ∨ f = 9) by omega) with q | q
      · exact Wk f q
      · rw [Wf f (by omega) (by omega) (by omega) (by omega) (by omega) (by omega) (by omega), (mk_f _ 1 0 0).2.2 f (by omega) (by omega) (by omega), (mk_f R 1 0 0).2.2 f (by omega) (by omega) (by omega)]) x y z, ru_mk, ru_mk]
    exact ⟨fun q => q.elim (fun q => q.elim id (fun q => absurd rfl q.2.1)) (fun q => absurd rfl q.2.1), fun q => Or.inl (Or.inl q)⟩) (fun f hf k hk => by rw [Wk f hf, kn_up (mkR R 1 0 0) 0 0 f hf k (by rw [(mk_f R 1 0 0).2.1]; omega)]; exact kn_up R 0 0 f hf k hk) enxW I7 (F 5 (by omega)) (wf_sm (wf_mk1 (p := 0) (q := 0) (wf_mk1 (p := 0) (q := 0) w1)) (by rw [W1, mm1]) (Wk 2 (by omega)) (Wk 3 (by omega))) (wfS_sm (wfS_mk (k := 1) (p := 0) (wfS_mk (k := 1) (p := 0) w2 0 (Or.inl (by decide))) 0 (Or.inl (by decide))) (by rw [W1, mm1]) (Wk 2 (by omega)) (Wk 4 (by omega))) (fun k k1 k2 => by
      rw [Wk 2 (by omega)]
      have : k = R.1 1 ∨ k = R.1 1 + 1 := by omega
      rcases this with q | q <;> subst q <;> simp [mkR, ra, ri, upd]) (by
      rw [I12, F 14 (by omega)]
      have h9 := noF_mk1 (noF_mk1 w3 0 0) 0 0
      unfold noF at h9 ⊢
      rw [W1, Wk 2 (by omega), Wk 3 (by omega), Wk 4 (by omega)]
      rw [mm1] at h9
      exact h9)
  refine ⟨⟨⟨by rw [TE9, I12]; exact n1, by rw [I12]; exact n2, by rw [I12]; exact n3⟩, ⟨by rw [TP, W35, p1], by omega⟩, ⟨by rw [TQ, I42]; exact a3, by rw [I42]; exact a4⟩, ⟨by rw [TN, W1, a5], by omega, by rw [W1, I42, W35, I12]; omega⟩, ?_, by rw [TR, W1, I7]; omega⟩, ⟨fun e h1 h2 => ?_, fun p hp => ?_⟩, hfr.1, hfr.2.1, fun q hq => ?_, ⟨fun p hp => ?_, fun p q hpq hq => ?_⟩, ⟨fun i hi => ?_, fun i j hij hj => ?_⟩, ⟨fun k => if k = R.1 1 then 3 else if k = R.1 1 + 1 then 4 else ρ k, fun e s he h14 hs => ?_, fun e v k he hv hk hkN => ?_, fun p f hp h37 hf => ?_, fun q k hq hk => ?_, fun e v p he hv hp hk => ?_, fun q k a e v hq hk h27 ha hea hv => ?_, fun q i j hq hij hj => ?_⟩, hS.1, hS.2, hfr.2.2, ?_⟩
  · rw [I7, I12, W35]
    show R.1 7 + 26 ≤ 26 * R.1 12 + 2 * (if W.2 39 (R.1 35) = -1 then ucn (W.2 39) (R.1 35) else ucn (W.2 39) (R.1 35) + 1)
    rw [W39, if_pos rfl, if_pos rfl, ucn_c (G := R.2 39) (R.1 35) (fun p hp => by rw [W39, if_neg (by omega)])]
    exact a8
  · rw [I12] at h1
    rw [F 16 (by omega), F 17 (by omega), F 18 (by omega), F 19 (by omega), F 20 (by omega)]; exact hZ.1 e h1 h2
  · rw [W35] at hp
    rw [F 41 (by omega)]; exact hZ.2 p (by omega)
  · obtain ⟨⟨g1, g2, g3, g4, g5, g6⟩, g7⟩ := hM q hq
    rw [Tc 0 (by omega), Tc 1 (by omega), Tc 3 (by omega), F 27 (by omega), F 28 (by omega), F 30 (by omega), F 31 (by omega), F 34 (by omega), T1, T22]
    refine ⟨⟨g1, g2, g3, g4, g5, g6⟩, ?_⟩
    rcases g7 with ⟨u1, u2, u3, u4, u5, u6, u7, u8⟩ | ⟨e, l, i1, i2, i3, i4, i5, i6, i7, i8, i9, i10, i11, i12⟩
    · exact Or.inl ⟨by rw [F 27 (by omega)]; exact u1, by rw [F 28 (by omega)]; exact u2, by rw [Tc 2 (by omega)]; exact u3, by rw [F 32 (by omega)]; exact u4, by rw [F 29 (by omega)]; exact u5, by rw [T22]; exact u6, by rw [F 33 (by omega)]; exact u7, by rw [T1]; exact u8⟩
    · exact Or.inr ⟨e, l, by rw [F 27 (by omega)]; exact i1, by rw [I12]; exact i2, i3, by rw [F 28 (by omega)]; exact i4, by rw [ko]; exact i5, by rw [Tc 2 (by omega), F 14 (by omega)]; exact i6, by rw [F 32 (by omega)]; exact i7, by rw [F 29 (by omega), kK]; exact i8, by rw [T22, F 29 (by omega)]; exact i9, fun i h1 h4 => by rw [T22, F 33 (by omega), kK, kU]; exact i10 i h1 h4, fun v hv hn => by rw [F 33 (by omega)]; exact i11 v hv hn, fun z => by rw [I12] at z; rw [T1, I42]; exact i12 z⟩
  · rw [W35] at hp
    rw [F 41 (by omega), F 40 (by omega)]
    by_cases z : p = R.1 35
    · subst z
      obtain ⟨z1, z2, z3, z4, z5⟩ := TP0
      rw [z1, z2, z3, z4, z5, W36, W37, W38, W39, if_pos rfl, if_pos rfl, if_pos rfl, if_pos rfl]
      exact ⟨⟨rfl, rfl, rfl, rfl, (hZ.2 _ (Nat.le_refl _)).symm⟩, ⟨m, hm, rfl⟩, ⟨R.1 1, by omega, rfl, rfl⟩, Or.inl (hZ.2 _ (Nat.le_refl _)), Or.inl ⟨rfl, hZ.2 _ (Nat.le_refl _)⟩⟩
    · obtain ⟨g1, g2, ⟨f, f1, f2, f3⟩, g3, g4⟩ := hK p (by omega)
      rw [Tp 11 p z, Tp 12 p z, Tp 13 p z, Tp 14 p z, Tp 15 p z, Tp 16 p z, W36, W37, W38, W39, if_neg z, if_neg z, if_neg z, if_neg z]
      exact ⟨g1, g2, ⟨f, by omega, f2, f3⟩, g3, g4.imp id (fun ⟨e, l, u1, u2, u3, u4, u5, u6, u7, u8, u9⟩ => ⟨e, l, u1, by rw [I12]; exact u2, u3, u4, u5, u6, by rw [ko]; exact u7, by rw [kK]; exact u8, by rw [F 19 (by omega)]; exact u9⟩)⟩
  · rw [W35] at hq
    rw [W38, W37, if_neg (show ¬ p = R.1 35 by omega)]
    by_cases z : q = R.1 35
    · rw [if_pos z]
      obtain ⟨-, -, ⟨f, f1, f2, f3⟩, -⟩ := hK p (by omega)
      exact ⟨f + 1, R.1 1, f3, rfl, f1, by omega⟩
    · rw [if_neg z]
      obtain ⟨f, g, f1, g1, hfg, hg⟩ := hKo p q hpq (by omega)
      exact ⟨f, g, f1, g1, hfg, by omega⟩
  · rw [I42] at hi
    rw [Tc 17 (by omega), Tc 18 (by omega), Tc 19 (by omega), F 43 (by omega), F 44 (by omega), F 45 (by omega), F 27 (by omega), F 28 (by omega), F 34 (by omega), I12, T1, W35]
    obtain ⟨g1, g2, g6, g7, g8, g9, g10⟩ := hP i hi
    refine ⟨g1, g2, g6, g7, g8, g9, fun w => ?_⟩
    obtain ⟨p, q1, q2⟩ := g10 w
    exact ⟨p, by omega, q2⟩
  · rw [I42] at hj
    rw [F 43 (by omega), F 45 (by omega)]; exact hPd i j hij hj
  · rw [I12] at he
    rw [F 14 (by omega)] at h14
    obtain ⟨-, s9, s1, s2⟩ := hX e he
    rw [s2] at h14
    have := inj (by omega) (by omega) h14
    subst this
    dsimp only; rw [if_neg (by omega), if_neg (by omega)]; exact l1 e s9 he s2 s1
  · rw [I12] at he
    rw [kK] at hk
    obtain ⟨D9, -, -, -, hkb, -⟩ := hT e he
    obtain ⟨k8, k1, k2⟩ := (hkb v hv).resolve_left (by rw [hk]; exact nI_ne1 (by omega))
    rw [k2] at hk
    have := inj (by omega) (by omega) hk
    subst this
    dsimp only; rw [if_neg (by omega), if_neg (by omega)]; exact l2 e v k8 he hv k2 k1
  · rw [W35] at hp
    rw [W37] at h37
    by_cases z : p = R.1 35
    · rw [if_pos z] at h37
      have := inj (by omega) (by omega) h37
      subst this
      dsimp only; rw [if_pos rfl, if_neg (by omega), if_pos rfl]; exact ⟨rfl, rfl⟩
    · rw [if_neg z] at h37
      obtain ⟨-, -, ⟨f9, f1, f2, f3⟩, -⟩ := hK p (by omega)
      rw [f2] at h37
      have := inj (by omega) (by omega) h37
      subst this
      dsimp only; rw [if_neg (by omega), if_neg (by omega), if_neg (by omega), if_neg (by omega)]; exact l3 p f9 (by omega) f2 f1
  · rw [T1] at hk
    rw [F 34 (by omega)]
    obtain ⟨u, u1, u2, u3⟩ := l4 q k hq hk
    exact ⟨u, by omega, u2, by dsimp only; rw [if_neg (by omega), if_neg (by omega)]; exact u3⟩
  · rw [I12] at he
    rw [W35] at hp
    rw [kK, W38] at hk
    rw [W39]
    by_cases z : p = R.1 35
    · exfalso
      rw [if_pos z] at hk
      obtain ⟨D9, -, -, -, hkb, -⟩ := hT e he
      obtain ⟨k8, k1, k2⟩ := (hkb v hv).resolve_left (by rw [hk]; exact nI_ne1 (by omega))
      rw [k2] at hk
      have := inj (by omega) (by omega) hk
      omega
    · rw [if_neg z] at hk ⊢; exact l5 e v p he hv (by omega) hk
  · rw [I12] at ha
    rw [F 27 (by omega)] at h27
    rw [T1] at hk
    rw [kK, F 34 (by omega)]; exact l6 q k a e v hq hk h27 ha hea hv
  · rw [T1] at hj
    rw [F 34 (by omega)]; exact l7 q i j hq hij hj
  · have old : ∀ p q f, p < R.1 35 + 1 → W.2 36 p = nI q → W.2 39 p = nI f → f < R.1 12 → p < R.1 35 ∧ R.2 36 p = nI q ∧ R.2 39 p = nI f := fun p q f hp h36 h39 hf => by
      rw [W39] at h39
      rw [W36] at h36
      by_cases z : p = R.1 35
      · rw [if_pos z] at h39; exact absurd h39.symm (nI_ne1 (by omega))
      · rw [if_neg z] at h36 h39; exact ⟨by omega, h36, h39⟩
    refine ⟨fun q a p e hq h27 ha hp h36 h41 h39 he => ?_, fun e c q h1 h2 hc hq h15 ho => ?_⟩
    · rw [I12] at ha he
      rw [W35] at hp
      rw [F 27 (by omega)] at h27
      rw [F 41 (by omega)] at h41
      obtain ⟨o1, o2, o3⟩ := old p q e hp h36 h39 he
      exact hF.1 q a p e hq h27 ha o1 o2 h41 o3 he
    · rw [I12] at h2 ⊢
      rw [W35, F 27 (by omega), F 41 (by omega)]
      rw [F 15 (by omega)] at h15
      rw [ko] at ho
      refine (hF.2 e c q h1 h2 hc hq h15 ho).imp id (fun ⟨g1, g2⟩ => ⟨g1, fun p f hp h36 h41 h39 hf => ?_⟩)
      obtain ⟨o1, o2, o3⟩ := old p q f hp h36 h39 hf
      exact g2 p f o1 o2 h41 o3 hf
