/-! J behind update, offer -/
theorem kn_up (R : SR) (a b : Int32) (f : Nat) (hf : f = 2 ∨ f = 3 ∨ f = 4) (k : Nat) (hk : k < R.1 1) : (mkR R 1 a b).2 f k = R.2 f k := (kx_mk R 1 a b (Or.inl rfl)).2.1 f hf k hk
theorem j_upd {S : SC} {R : SR} (h : J S R) (hok : okC S) {m : Nat} (hm : m < 16) (hl : R.2 27 m = nI (R.1 12 - 1)) (hQ : R.1 42 < 20) : R.2 31 m = nI (S.1 1 m) ∧ S.1 1 m < 20 ∧ J (updS S m) (prR (ukR R m (S.1 1 m)) 2 (nI m) (nI (R.1 1))) := by
  have hJ := h
  obtain ⟨⟨⟨n1, n2, n3⟩, ⟨p1, p2⟩, ⟨a3, a4⟩, ⟨a5, a6, a7⟩, a8, a9⟩, hZ, hX, ⟨hT, hO⟩, hM, ⟨hK, hKo⟩, ⟨hP, hPd⟩, ⟨ρ, l1, l2, l3, l4, l5, l6, l7⟩, ⟨w1, w2, w3, -, -⟩, -, hH, hF⟩ := h
  obtain ⟨⟨gm1, gm2, gm3, gm4, gm5, gm6⟩, gm7⟩ := hM m hm
  have huc : S.1 1 m ≤ R.1 42 := by
    rcases gm7 with q | ⟨e, l, i1, i2, -, -, -, -, -, -, -, -, -, i12⟩
    · rw [q.1] at hl; exact absurd hl.symm (nI_ne1 (by omega))
    · rw [i1] at hl
      have := (nI_eq (by omega) (by omega)).mp hl
      exact i12 (by omega)
  refine ⟨gm4, by omega, ?_⟩
  obtain ⟨uc, euc⟩ : ∃ uc, uc = S.1 1 m := ⟨_, rfl⟩
  obtain ⟨T, eT⟩ : ∃ T, T = updS S m := ⟨_, rfl⟩
  obtain ⟨W, eW⟩ : ∃ W, W = prR (ukR R m uc) 2 (nI m) (nI (R.1 1)) := ⟨_, rfl⟩
  rw [← euc] at huc gm4 gm5 gm6 ⊢
  rw [← eT, ← eW]
  have inj : ∀ {p q : Nat}, p < 2600 → q < 2600 → nI p = nI q → p = q := fun hp hq e => (nI_eq (by omega) (by omega)).mp e
  -- fields
  have W1 : W.1 1 = R.1 1 + 1 := by rw [eW]; simp [prR, ukR, mkR, ra, ri]
  have W42 : W.1 42 = R.1 42 + 1 := by rw [eW]; simp [prR, ukR, mkR, ra, ri]
  have Wi : ∀ f, f ≠ 1 → f ≠ 42 → W.1 f = R.1 f := fun f k1 k2 => by rw [eW]; simp [prR, ukR, mkR, ra, ri, k1, k2]
  have Wf : ∀ f, f ≠ 2 → f ≠ 3 → f ≠ 4 → f ≠ 31 → f ≠ 34 → f ≠ 43 → f ≠ 44 → f ≠ 45 → W.2 f = R.2 f := fun f k1 k2 k3 k4 k5 k6 k7 k8 => by rw [eW]; simp [prR, ukR, mkR, ra, ri, k1, k2, k3, k4, k5, k6, k7, k8]
  have Wk : ∀ f, f = 2 ∨ f = 3 ∨ f = 4 → W.2 f = (mkR R 1 0 0).2 f := fun f hf => by rw [eW]; rcases hf with q | q | q <;> subst q <;> rfl
  have W31 : ∀ q, W.2 31 q = if q = m then nI (uc + 1) else R.2 31 q := fun q => by rw [eW]; simp [prR, ukR, mkR, ra, ri, upd]
  have W34 : ∀ j, W.2 34 j = if j = 20 * m + uc then nI (R.1 1) else R.2 34 j := fun j => by rw [eW]; simp [prR, ukR, mkR, ra, ri, upd]
  have W43 : ∀ i, W.2 43 i = if i = R.1 42 then 2 else R.2 43 i := fun i => by rw [eW]; simp [prR, ukR, mkR, ra, ri, upd]
  have W44 : ∀ i, W.2 44 i = if i = R.1 42 then nI m else R.2 44 i := fun i => by rw [eW]; simp [prR, ukR, mkR, ra, ri, upd]
  have W45 : ∀ i, W.2 45 i = if i = R.1 42 then nI (R.1 1) else R.2 45 i := fun i => by rw [eW]; simp [prR, ukR, mkR, ra, ri, upd]
  have TN : sN T = sN S + 1 := by rw [eT]; simp [updS, prS, ukS, frS, sN, stN, st1, st2]
  have TR : sR T = sR S := by rw [eT]; simp [updS, prS, ukS, frS, sR, stN, st1, st2]
  have TE9 : sE T = sE S := by rw [eT]; simp [updS, prS, ukS, frS, sE, stN, st1, st2]
  have TP : sP T = sP S := by rw [eT]; simp [updS, prS, ukS, frS, sP, stN, st1, st2]
  have TQ : sQ T = sQ S + 1 := by rw [eT]; simp [updS, prS, ukS, frS, sQ, stN, st1, st2]
  have T1 : ∀ q, T.1 1 q = if q = m then uc + 1 else S.1 1 q := fun q => by rw [eT, euc]; simp [updS, prS, ukS, frS, stN, st1, st2]
  have T2 : T.1 2 = S.1 2 := by rw [eT]; funext i; simp [updS, prS, ukS, frS, stN, st1, st2]
  have Tc : ∀ c, c ≠ 17 → c ≠ 18 → c ≠ 19 → T.2.1 c = S.2.1 c := fun c k1 k2 k3 => by rw [eT]; funext i; simp [updS, prS, ukS, frS, stN, st1, st2, k1, k2, k3]
  have T17 : ∀ i, T.2.1 17 i = if i = R.1 42 then 2 else S.2.1 17 i := fun i => by rw [eT, ← a3]; simp [updS, prS, ukS, frS, sQ, stN, st1, st2]
  have T18 : ∀ i, T.2.1 18 i = if i = R.1 42 then S.2.1 1 m else S.2.1 18 i := fun i => by rw [eT, ← a3]; simp [updS, prS, ukS, frS, sQ, stN, st1, st2]
  have T19 : ∀ i, T.2.1 19 i = if i = R.1 42 then nI (R.1 1) else S.2.1 19 i := fun i => by rw [eT, ← a3, ← a5]; simp [updS, prS, ukS, frS, sQ, sN, stN, st1, st2]
  have T22 : ∀ c, c ≠ 1 → T.2.2 c = S.2.2 c := fun c k => by rw [eT]; funext i; simp [updS, prS, ukS, frS, stN, st1, st2, k]
  have T221 : ∀ q k, T.2.2 1 q k = if q = m ∧ k = uc then nI (R.1 1) else S.2.2 1 q k := fun q k => by
    rw [eT, euc, ← a5]
    by_cases z : q = m
    · subst z; simp [updS, prS, ukS, frS, stN, st1, st2, upd, sN]
    · simp [updS, prS, ukS, frS, stN, st1, st2, z]
  have kK : ∀ e v, rK W e v = rK R e v := fun e v => by simp only [rK]; rw [Wf 22 (by decide) (by decide) (by decide) (by decide) (by decide) (by decide) (by decide) (by decide)]
  have kU : ∀ e v, rU W e v = rU R e v := fun e v => by simp only [rU]; rw [Wf 23 (by decide) (by decide) (by decide) (by decide) (by decide) (by decide) (by decide) (by decide)]
  have ko : ∀ e l, ow W e l = ow R e l := fun e l => by simp only [ow]; rw [Wf 26 (by decide) (by decide) (by decide) (by decide) (by decide) (by decide) (by decide) (by decide)]
  have F : ∀ f, f = 5 ∨ f = 13 ∨ f = 14 ∨ f = 15 ∨ f = 16 ∨ f = 17 ∨ f = 18 ∨ f = 19 ∨ f = 20 ∨ f = 27 ∨ f = 28 ∨ f = 29 ∨ f = 30 ∨ f = 32 ∨ f = 33 ∨ f = 36 ∨ f = 37 ∨ f = 38 ∨ f = 39 ∨ f = 40 ∨ f = 41 → W.2 f = R.2 f := fun f hf => Wf f (by omega) (by omega) (by omega) (by omega) (by omega) (by omega) (by omega) (by omega)
  have enxW : enx R W := enx.sm (Wi 7 (by decide) (by decide)) (fun f k1 k2 => Wf f (by omega) (by omega) (by omega) (by omega) (by omega) (by omega) (by omega) (by omega))
  have hfr := j_fr (T := T) (W := W) hJ (Wi 12 (by decide) (by decide)) (fun f k1 k2 k3 => Wf f (by omega) (by omega) (by omega) (by omega) (by omega) (by omega) (by omega) (by omega)) T2 (fun c hc => T22 c (by omega)) (fun c hc => Tc c (by omega) (by omega) (by omega)) (by omega) enxW
  have hS := jC_same (T := T) (W := W) hJ hok (by rw [TN, W1, a5]) (by omega) (by omega) TR (Tc 22 (by decide) (by decide) (by decide)) (Tc 23 (by decide) (by decide) (by decide)) (Tc 24 (by decide) (by decide) (by decide)) (Tc 21 (by decide) (by decide) (by decide)) (fun x y z => by
    rw [ruR_sm (X := mkR R 1 0 0) (by rw [W1]; exact ((mk_f R 1 0 0).2.1).symm) (by rw [Wi 7 (by decide) (by decide)]; exact ((mk_f R 1 0 0).1 7 (by decide)).symm) (fun f hf => by
      rcases (show (f = 2 ∨ f = 3 ∨ f = 4) ∨ (f = 8 ∨ f = 9) by omega) with q | q
      · exact Wk f q
      · rw [Wf f (by omega) (by omega) (by omega) (by omega) (by omega) (by omega) (by omega) (by omega), (mk_f R 1 0 0).2.2 f (by omega) (by omega) (by omega)]) x y z, ru_mk]
    exact ⟨fun q => q.elim id (fun q => absurd rfl q.2.1), Or.inl⟩) (fun f hf k hk => by rw [Wk f hf]; exact kn_up R 0 0 f hf k hk) enxW (Wi 7 (by decide) (by decide)) (F 5 (by omega)) (wf_sm (wf_mk1 (p := 0) (q := 0) w1) (by rw [W1]; exact ((mk_f R 1 0 0).2.1).symm) (Wk 2 (by omega)) (Wk 3 (by omega))) (wfS_sm (wfS_mk (k := 1) (p := 0) w2 0 (Or.inl (by decide))) (by rw [W1]; exact ((mk_f R 1 0 0).2.1).symm) (Wk 2 (by omega)) (Wk 4 (by omega))) (fun k k1 k2 => by
      have : k = R.1 1 := by omega
      subst this
      rw [Wk 2 (by omega), show (mkR R 1 0 0).2 2 (R.1 1) = 1 by simp [mkR, ra, ri, upd]]; decide) (by
      rw [Wi 12 (by decide) (by decide), F 14 (by omega)]
      have h9 := noF_mk1 w3 0 0
      unfold noF at h9 ⊢
      rw [W1, Wk 2 (by omega), Wk 3 (by omega), Wk 4 (by omega)]
      rw [(mk_f R 1 0 0).2.1] at h9
      exact h9)
  have old34 : ∀ q k, q < 16 → k < 20 → (q ≠ m ∨ k < uc) → W.2 34 (20 * q + k) = R.2 34 (20 * q + k) := fun q k hq hk hc => by rw [W34, if_neg (by omega)]
  have new34 : W.2 34 (20 * m + uc) = nI (R.1 1) := by rw [W34, if_pos rfl]
  refine ⟨⟨⟨by rw [TE9, Wi 12 (by decide) (by decide)]; exact n1, by rw [Wi 12 (by decide) (by decide)]; exact n2, by rw [Wi 12 (by decide) (by decide)]; exact n3⟩, ⟨by rw [TP, Wi 35 (by decide) (by decide)]; exact p1, by rw [Wi 35 (by decide) (by decide)]; exact p2⟩, ⟨by rw [TQ, W42, a3], by omega⟩, ⟨by rw [TN, W1, a5], by omega, by rw [W1, W42, Wi 35 (by decide) (by decide), Wi 12 (by decide) (by decide)]; omega⟩, by rw [Wi 7 (by decide) (by decide), Wi 12 (by decide) (by decide), Wi 35 (by decide) (by decide), F 39 (by omega)]; exact a8, by rw [TR, W1, Wi 7 (by decide) (by decide)]; omega⟩, ⟨fun e h1 h2 => ?_, fun p hp => ?_⟩, hfr.1, hfr.2.1, fun q hq => ?_, ⟨fun p hp => ?_, fun p q hpq hq => ?_⟩, ⟨fun i hi => ?_, fun i j hij hj => ?_⟩, ⟨fun k => if k = R.1 1 then 5 else ρ k, fun e s he h14 hs => ?_, fun e v k he hv hk hkN => ?_, fun p f hp h37 hf => ?_, fun q k hq hk => ?_, fun e v p he hv hp hk => ?_, fun q k a e v hq hk h27 ha hea hv => ?_, fun q i j hq hij hj => ?_⟩, hS.1, hS.2, hfr.2.2, ?_⟩
  · rw [Wi 12 (by decide) (by decide)] at h1
    rw [F 16 (by omega), F 17 (by omega), F 18 (by omega), F 19 (by omega), F 20 (by omega)]; exact hZ.1 e h1 h2
  · rw [Wi 35 (by decide) (by decide)] at hp
    rw [F 41 (by omega)]; exact hZ.2 p hp
  · obtain ⟨⟨g1, g2, g3, g4, g5, g6⟩, g7⟩ := hM q hq
    rw [Tc 0 (by decide) (by decide) (by decide), Tc 1 (by decide) (by decide) (by decide), Tc 3 (by decide) (by decide) (by decide), F 27 (by omega), F 28 (by omega), F 30 (by omega), T1, W31]
    refine ⟨⟨g1, g2, g3, ?_, ?_, fun k hk => ?_⟩, ?_⟩
    · by_cases z : q = m
      · rw [if_pos z, if_pos z]
      · rw [if_neg z, if_neg z]; exact g4
    · by_cases z : q = m
      · rw [if_pos z]; omega
      · rw [if_neg z]; exact g5
    · rw [T221]
      by_cases z : q = m
      · subst z
        rw [if_pos rfl] at hk
        by_cases z2 : k = uc
        · rw [if_pos ⟨rfl, z2⟩, z2]; exact new34.symm
        · rw [if_neg (fun w => z2 w.2), old34 q k hq (by omega) (Or.inr (by omega))]; exact g6 k (by omega)
      · rw [if_neg z] at hk
        rw [if_neg (fun w => z w.1), old34 q k hq (by omega) (Or.inl z)]; exact g6 k hk
    · rcases g7 with ⟨u1, u2, u3, u4, u5, u6, u7, u8⟩ | ⟨e, l, i1, i2, i3, i4, i5, i6, i7, i8, i9, i10, i11, i12⟩
      · have hqm : q ≠ m := fun z => by rw [z, hl] at u1; exact nI_ne1 (by omega) u1
        exact Or.inl ⟨by rw [F 27 (by omega)]; exact u1, by rw [F 28 (by omega)]; exact u2, by rw [Tc 2 (by decide) (by decide) (by decide)]; exact u3, by rw [F 32 (by omega)]; exact u4, by rw [F 29 (by omega)]; exact u5, by rw [T22 0 (by decide)]; exact u6, by rw [F 33 (by omega)]; exact u7, by rw [T1, if_neg hqm]; exact u8⟩
      · refine Or.inr ⟨e, l, by rw [F 27 (by omega)]; exact i1, by rw [Wi 12 (by decide) (by decide)]; exact i2, i3, by rw [F 28 (by omega)]; exact i4, by rw [ko]; exact i5, by rw [Tc 2 (by decide) (by decide) (by decide), F 14 (by omega)]; exact i6, by rw [F 32 (by omega)]; exact i7, by rw [F 29 (by omega), kK]; exact i8, by rw [T22 0 (by decide), F 29 (by omega)]; exact i9, fun i h1 h4 => by rw [T22 0 (by decide), F 33 (by omega), kK, kU]; exact i10 i h1 h4, fun v hv hn => by rw [F 33 (by omega)]; exact i11 v hv hn, fun z => ?_⟩
        rw [Wi 12 (by decide) (by decide)] at z
        have := i12 z
        rw [T1, W42]
        by_cases z2 : q = m
        · rw [if_pos z2]; omega
        · rw [if_neg z2]; omega
  · rw [Wi 35 (by decide) (by decide)] at hp
    obtain ⟨g1, g2, ⟨f, f1, f2, f3⟩, g3, g4⟩ := hK p hp
    rw [Tc 11 (by decide) (by decide) (by decide), Tc 12 (by decide) (by decide) (by decide), Tc 13 (by decide) (by decide) (by decide), Tc 14 (by decide) (by decide) (by decide), Tc 15 (by decide) (by decide) (by decide), Tc 16 (by decide) (by decide) (by decide), F 36 (by omega), F 37 (by omega), F 38 (by omega), F 39 (by omega), F 40 (by omega), F 41 (by omega)]
    refine ⟨g1, g2, ⟨f, by omega, f2, f3⟩, g3, g4.imp id (fun ⟨e, l, u1, u2, u3, u4, u5, u6, u7, u8, u9⟩ => ⟨e, l, u1, by rw [Wi 12 (by decide) (by decide)]; exact u2, u3, u4, u5, u6, by rw [ko]; exact u7, by rw [kK]; exact u8, by rw [F 19 (by omega)]; exact u9⟩)⟩
  · rw [Wi 35 (by decide) (by decide)] at hq
    rw [F 38 (by omega), F 37 (by omega)]
    obtain ⟨f, g, f1, g1, hfg, hg⟩ := hKo p q hpq hq
    exact ⟨f, g, f1, g1, hfg, by omega⟩
  · rw [W42] at hi
    rw [T17, T18, T19, W43, W44, W45, F 27 (by omega), F 28 (by omega), Wi 12 (by decide) (by decide), Wi 35 (by decide) (by decide)]
    by_cases z : i = R.1 42
    · rw [if_pos z, if_pos z, if_pos z, if_pos z, if_pos z, if_pos z]
      exact ⟨rfl, ⟨m, hm, rfl, hl, fun _ => ⟨uc, by rw [T1, if_pos rfl]; omega, new34.symm⟩⟩, Or.inr (Or.inr rfl), fun q => absurd rfl q, fun _ => ⟨by rw [nI_clamp (by omega)]; exact gm2, rfl⟩, fun q => absurd q (by decide), fun q => absurd q (by decide)⟩
    · rw [if_neg z, if_neg z, if_neg z, if_neg z, if_neg z, if_neg z]
      obtain ⟨g1, ⟨q, g2, g3, g4, g5⟩, g6, g7, g8, g9, g10⟩ := hP i (by omega)
      refine ⟨g1, ⟨q, g2, g3, g4, fun w => ?_⟩, g6, g7, g8, g9, g10⟩
      obtain ⟨k, k1, k2⟩ := g5 w
      have hq20 := (hM q g2).1.2.2.2.2.1
      refine ⟨k, ?_, ?_⟩
      · rw [T1]
        by_cases z2 : q = m
        · rw [if_pos z2]; rw [z2, ← euc] at k1; omega
        · rw [if_neg z2]; exact k1
      · rw [old34 q k g2 (by omega) (by
          by_cases z2 : q = m
          · rw [z2, ← euc] at k1; exact Or.inr k1
          · exact Or.inl z2)]; exact k2
  · rw [W42] at hj
    rw [W43, W43, W45, W45, if_neg (show ¬ i = R.1 42 by omega), if_neg (show ¬ i = R.1 42 by omega)]
    by_cases z : j = R.1 42
    · rw [if_pos z, if_pos z]
      intro h2 _
      obtain ⟨-, ⟨q, g2, -, -, g5⟩, -⟩ := hP i (by omega)
      obtain ⟨k, k1, k2⟩ := g5 h2
      obtain ⟨u, u1, u2, -⟩ := l4 q k g2 k1
      rw [k2, u2]
      exact fun w => by have := inj (by omega) (by omega) w; omega
    · rw [if_neg z, if_neg z]; exact hPd i j hij (by omega)
  · rw [Wi 12 (by decide) (by decide)] at he
    rw [F 14 (by omega)] at h14
    obtain ⟨-, s9, s1, s2⟩ := hX e he
    rw [s2] at h14
    have := inj (by omega) (by omega) h14
    subst this
    dsimp only; rw [if_neg (by omega)]; exact l1 e s9 he s2 s1
  · rw [Wi 12 (by decide) (by decide)] at he
    rw [kK] at hk
    obtain ⟨D9, -, -, -, hkb, -⟩ := hT e he
    obtain ⟨k8, k1, k2⟩ := (hkb v hv).resolve_left (by rw [hk]; exact nI_ne1 (by omega))
    rw [k2] at hk
    have := inj (by omega) (by omega) hk
    subst this
    dsimp only; rw [if_neg (by omega)]; exact l2 e v k8 he hv k2 k1
  · rw [Wi 35 (by decide) (by decide)] at hp
    rw [F 37 (by omega)] at h37
    obtain ⟨-, -, ⟨f9, f1, f2, f3⟩, -⟩ := hK p hp
    rw [f2] at h37
    have := inj (by omega) (by omega) h37
    subst this
    dsimp only; rw [if_neg (by omega), if_neg (by omega)]; exact l3 p f9 hp f2 f1
  · rw [T1] at hk
    have old : k < S.1 1 q → (q ≠ m ∨ k < uc) → ∃ u, u < W.1 1 ∧ W.2 34 (20 * q + k) = nI u ∧ (if u = R.1 1 then 5 else ρ u) = 5 := fun hk9 hc => by
      obtain ⟨u, u1, u2, u3⟩ := l4 q k hq hk9
      have hq20 := (hM q hq).1.2.2.2.2.1
      exact ⟨u, by omega, by rw [old34 q k hq (by omega) hc]; exact u2, by rw [if_neg (by omega)]; exact u3⟩
    by_cases z : q = m
    · subst z
      rw [if_pos rfl] at hk
      by_cases z2 : k = uc
      · subst z2
        exact ⟨R.1 1, by omega, new34, by dsimp only; rw [if_pos rfl]⟩
      · exact old (by omega) (Or.inr (by omega))
    · rw [if_neg z] at hk; exact old hk (Or.inl z)
  · rw [Wi 12 (by decide) (by decide)] at he
    rw [Wi 35 (by decide) (by decide)] at hp
    rw [kK, F 38 (by omega)] at hk
    rw [F 39 (by omega)]; exact l5 e v p he hv hp hk
  · rw [Wi 12 (by decide) (by decide)] at ha
    rw [F 27 (by omega)] at h27
    rw [kK]
    rw [T1] at hk
    have hq20 := (hM q hq).1.2.2.2.2.1
    by_cases z : q = m
    · subst z
      rw [if_pos rfl] at hk
      by_cases z2 : k = uc
      · subst z2
        rw [new34]
        intro w
        obtain ⟨D9, -, -, -, hkb, -⟩ := hT e (by omega)
        obtain ⟨k8, k1, k2⟩ := (hkb v hv).resolve_left (by rw [w]; exact nI_ne1 (by omega))
        rw [k2] at w
        have := inj (by omega) (by omega) w
        omega
      · rw [old34 q k hq (by omega) (Or.inr (by omega))]; exact l6 q k a e v hq (by omega) h27 ha hea hv
    · rw [if_neg z] at hk
      rw [old34 q k hq (by omega) (Or.inl z)]; exact l6 q k a e v hq hk h27 ha hea hv
  · rw [T1] at hj
    have hq20 := (hM q hq).1.2.2.2.2.1
    by_cases z : q = m
    · subst z
      rw [if_pos rfl] at hj
      rw [old34 q i hq (by omega) (Or.inr (by omega))]
      by_cases z2 : j = uc
      · subst z2
        rw [new34]
        obtain ⟨u, u1, u2, -⟩ := l4 q i hq (by omega)
        rw [u2]
        exact fun w => by have := inj (by omega) (by omega) w; omega
      · rw [old34 q j hq (by omega) (Or.inr (by omega))]; exact l7 q i j hq hij (by omega)
    · rw [if_neg z] at hj
      rw [old34 q i hq (by omega) (Or.inl z), old34 q j hq (by omega) (Or.inl z)]; exact l7 q i j hq hij hj
  · refine ⟨fun q a p e hq h27 ha hp h36 h41 h39 he => ?_, fun e c q h1 h2 hc hq h15 ho => ?_⟩
    · rw [Wi 12 (by decide) (by decide)] at ha he
      rw [Wi 35 (by decide) (by decide)] at hp
      rw [F 27 (by omega)] at h27
      rw [F 36 (by omega)] at h36
      rw [F 41 (by omega)] at h41
      rw [F 39 (by omega)] at h39
      exact hF.1 q a p e hq h27 ha hp h36 h41 h39 he
    · rw [Wi 12 (by decide) (by decide)] at h2 ⊢
      rw [Wi 35 (by decide) (by decide), F 27 (by omega), F 36 (by omega), F 41 (by omega), F 39 (by omega)]
      rw [F 15 (by omega)] at h15
      rw [ko] at ho
      exact hF.2 e c q h1 h2 hc hq h15 ho
