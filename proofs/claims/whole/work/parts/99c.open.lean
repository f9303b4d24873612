/-! behind the path; the epoch is opened; the welcome -/
theorem pa_all {S : SC} {T : SR} {e a D N0 : Nat} (h : PH S T e a D N0) : ∀ hh, hh ≤ D → PA S T e a D N0 hh (mpL S e a hh).1 (rnL T e a hh).1 (rnL T e a hh).2 ∧ (mpL S e a hh).2 = (rnL T e a hh).2 ∧ ∀ j, j < hh → rnP (rnL T e a j).1 e a j (rnL T e a j).2 := by
  intro hh
  induction hh with
  | zero => exact fun _ => ⟨pa_base h, rfl, fun j hj => absurd hj (Nat.not_lt_zero j)⟩
  | succ hh ih =>
    intro hle
    obtain ⟨i1, i2, i3⟩ := ih (by omega)
    have hf := rnL_f T e a hh
    have h1 := pa_step h (show hh < D by omega) i1 (tq_mpL S e a hh) hf.1 (fun f hf9 => hf.2 f (by omega) (by omega) (by omega) (by omega) (by omega) (by omega) (by omega) (by omega) (by omega) (by omega) (by omega) (by omega) (by omega))
    have e1 : mpL S e a (hh + 1) = mpT (mpL S e a hh).1 e a hh (rnL T e a hh).2 := by rw [← i2]; rfl
    have e2 : rnL T e a (hh + 1) = rn1 (rnL T e a hh).1 e a hh (rnL T e a hh).2 := rfl
    rw [e1, e2]
    refine ⟨h1.1, h1.2.1, fun j hj => ?_⟩
    by_cases e9 : j = hh
    · subst e9; exact h1.2.2
    · exact i3 j (by omega)
theorem TE_sm {X X1 : SC} {Y Y1 : SR} {e D : Nat} (h : TE X Y e e D) (h1 : X1.1 2 e = X.1 2 e) (h2 : X1.2.2 = X.2.2) (k13 : Y1.2 13 = Y.2 13) (k22 : Y1.2 22 = Y.2 22) (k23 : Y1.2 23 = Y.2 23) (k24 : Y1.2 24 = Y.2 24) : TE X1 Y1 e e D := by
  have e1 : rK Y1 e = rK Y e := by funext v; simp only [rK]; rw [k22]
  have e2 : rU Y1 e = rU Y e := by funext v; simp only [rU]; rw [k23]
  refine ⟨h1.trans h.1, by rw [k13]; exact h.2.1, fun v hv => ?_⟩
  rw [h2, e1, e2, k24]; exact h.2.2 v hv
def PE (S : SC) (T : SR) (e D N0 : Nat) (S4 : SC) (T7 : SR) (c : Int32) (cnt : Nat) (pkr : Int32 → Int32 → Int32 → Prop) : Prop :=
  (sN S4 = T7.1 1 ∧ N0 ≤ T7.1 1 ∧ T7.1 1 ≤ N0 + 10) ∧ (∃ k, k < T7.1 1 ∧ c = nI k) ∧ TE S4 T7 e e D ∧ S4.2.1 6 e = T7.2 16 e ∧ (wfF T7 ∧ wfS T7) ∧ TI D (rK T7 e) (rU T7 e) ∧ (∀ x y z, ruC S4 x y z ↔ ruR T7 x y z ∨ pkr x y z) ∧ S4.2.1 10 e = T7.2 20 e + nI cnt ∧ ordC S4 ∧ (enx T T7 ∧ T7.1 7 ≤ T.1 7 + 26) ∧ sR S4 + T.1 1 + T.1 7 ≤ sR S + T7.1 1 + T7.1 7 + cnt
theorem pe_path {S : SC} {T : SR} {e a D N0 : Nat} (h : PH S T e a D N0) : PE S T e D N0 (mpS S e a D).1 (nmR (rnL T e a D).1 (rnL T e a D).2) (mpS S e a D).2 (pkT S T e a D) (fun x y z => ∃ i, i < T.1 35 ∧ T.2 39 i = nI e ∧ (∃ j, j < D ∧ rsv (rK T e) (rU T e) j (sdn a j) ≠ [] ∧ pn (T.2 40 i).toNatClampNeg j = sdn a j ∧ z = (nmR (rnL T e a D).1 (rnL T e a D).2).2 25 (31 * e + pn a (j + 1))) ∧ x = T.2 37 i ∧ y = -1) ∧ (mpS S e a D).2 = nI ((rnL T e a D).1.1 1) ∧ (rnL T e a D).1.1 1 < 2600 ∧ ((rnL T e a D).2 ≠ -1 → noF (rnL T e a D).1 2 (rnL T e a D).2) := by
  obtain ⟨hA, e2, -⟩ := pa_all h D (Nat.le_refl _)
  have hD4 := h.2.2.1.1
  obtain ⟨⟨ha, haD, he⟩, hTE, hTI, ⟨n1, n2, n3⟩, -, -, -, -, -, -, -, -, -, -, hb1, hb2⟩ := h
  obtain ⟨X, eX⟩ : ∃ X, X = (mpL S e a D).1 := ⟨_, rfl⟩
  obtain ⟨Y, eY⟩ : ∃ Y, Y = (rnL T e a D).1 := ⟨_, rfl⟩
  obtain ⟨p, ep⟩ : ∃ p, p = (rnL T e a D).2 := ⟨_, rfl⟩
  have em : mpS S e a D = (nxS X p, nI (sN X)) := by unfold mpS; rw [e2, ← ep, ← eX]
  rw [em, ← eY, ← ep]
  rw [← eX, ← eY, ← ep] at hA
  obtain ⟨⟨a1, a1b, a1c⟩, aTE, a6, -, ap, ⟨aw, aws⟩, aTI, aru, a10, aor, ⟨ae1, ae2, ae3⟩, asR, -⟩ := hA
  have hsp : p = -1 ∨ ∃ q, p = nI q ∧ q < Y.1 1 := ap.imp id (fun ⟨q, q1, q2, _, _⟩ => ⟨q, q1, by omega⟩)
  have nru := nx_ru X Y p a1 hsp
  have nxf := nx_f X p
  have nmf := nm_f Y p
  have hp5 : 2 ^ (D + 1) ≤ D + 28 := by
    have : D = 0 ∨ D = 1 ∨ D = 2 ∨ D = 3 ∨ D = 4 := by omega
    rcases this with q | q | q | q | q <;> subst q <;> decide
  refine ⟨⟨⟨?_, ?_, ?_⟩, ⟨Y.1 1, ?_, ?_⟩, ?_, ?_, ⟨nru.2.2.2.1 aw, nru.2.2.2.2 aws⟩, ?_, fun x y z => ?_, ?_, nru.2.2.1 aor, ⟨?_, ?_⟩, ?_⟩, ?_, by omega, fun hpn => ?_⟩
  · show sN (nxS X p) = _
    rw [nxf.1, nmf.2.1, a1]
  · rw [nmf.2.1]; omega
  · rw [nmf.2.1]; omega
  · rw [nmf.2.1]; omega
  · show nI (sN X) = _; rw [a1]
  · show TE (nxS X p) _ e e D
    exact TE_sm aTE (by rw [nxf.2.2.2.2.1]) nxf.2.2.2.2.2.2.1 (nmf.2.2 13 (by decide) (by decide) (by decide)) (nmf.2.2 22 (by decide) (by decide) (by decide)) (nmf.2.2 23 (by decide) (by decide) (by decide)) (nmf.2.2 24 (by decide) (by decide) (by decide))
  · show (nxS X p).2.1 6 e = _
    rw [nxf.2.2.2.2.2.2.2 6 (by decide) (by decide), nmf.2.2 16 (by decide) (by decide) (by decide)]; exact a6
  · refine TI_c aTI (fun v _ => ?_)
    simp only [rK, rU]
    rw [nmf.2.2 22 (by decide) (by decide) (by decide), nmf.2.2 23 (by decide) (by decide) (by decide)]; exact ⟨rfl, rfl⟩
  · show ruC (nxS X p) x y z ↔ _
    rw [nru.1, aru, nru.2.1, nmf.2.2 25 (by decide) (by decide) (by decide)]
    exact ⟨fun q => q.elim (fun q => q.imp Or.inl id) (fun q => Or.inl (Or.inr q)), fun q => q.elim (fun q => q.imp Or.inl id) (fun q => Or.inl (Or.inr q))⟩
  · show (nxS X p).2.1 10 e = _
    rw [nxf.2.1, nmf.2.2 20 (by decide) (by decide) (by decide)]; exact a10
  · exact ae2.trans (enx.sm (nmf.1 7 (by decide)) (fun f k1 k2 => nmf.2.2 f (by omega) (by omega) (by omega)))
  · rw [nmf.1 7 (by decide)]; omega
  · show sR (nxS X p) + T.1 1 + T.1 7 ≤ _
    have := nxf.2.2.1
    rw [nmf.2.1, nmf.1 7 (by decide)]; omega
  · show nI (sN X) = _; rw [a1]
  · obtain ⟨s, hs, hs2, hs3, -⟩ := ap.resolve_left hpn
    rw [hs]; exact wf_noP aw (by omega) hs2 hs3
theorem pe_none {S : SC} {T : SR} {e a D N0 : Nat} (h : PH S T e a D N0) : PE S T e D N0 S T 0 0 (fun _ _ _ => False) := by
  obtain ⟨⟨ha, haD, he⟩, hTE, hTI, ⟨n1, n2, n3⟩, -, ⟨h6, -⟩, h10, hru, hor, hwf, hwS, -, -, h12, hb1, hb2⟩ := h
  refine ⟨⟨by rw [n1, n2], by omega, by omega⟩, ⟨0, by omega, rfl⟩, hTE, h6, ⟨hwf, hwS⟩, hTI, fun x y z => ?_, ?_, hor, ⟨enx.rf, by omega⟩, by omega⟩
  · rw [hru]; exact ⟨Or.inl, fun q => q.elim id False.elim⟩
  · rw [show nI 0 = 0 from rfl, Int32.add_zero]; exact h10
/-! the epoch is opened -/
theorem op_A (S4 : SC) (T7 : SR) (e : Nat) (c : Int32) {b k : Nat} (hN : sN S4 = T7.1 1) (hb : b < T7.1 1) (hsec : S4.2.1 5 (e - 1) = nI b) (hsecR : T7.2 14 (e - 1) = nI b) (hc : c = nI k) (hk : k < T7.1 1) :
    (sN (opS S4 e c) = T7.1 1 + 3 ∧ sR (opS S4 e c) = sR S4 + 3 + pcN S4 e (fun _ => true) (sP S4)) ∧ (opS S4 e c).2.1 5 e = nI (T7.1 1 + 2) ∧ (opS S4 e c).2.1 10 e = S4.2.1 10 e + nI (pcN S4 e (fun _ => true) (sP S4)) ∧
    (∀ x y z, ruC (opS S4 e c) x y z ↔ ruC S4 x y z ∨ (x = nI b ∧ y = -1 ∧ z = nI (T7.1 1)) ∨ (x = nI (T7.1 1) ∧ y = c ∧ z = nI (T7.1 1 + 1)) ∨ (∃ i, i < sP S4 ∧ S4.2.1 14 i = nI e ∧ x = S4.2.1 12 i ∧ y = -1 ∧ z = nI (T7.1 1 + 1)) ∨ (x = nI (T7.1 1 + 1) ∧ y = -1 ∧ z = nI (T7.1 1 + 2))) ∧
    (ordC S4 → (∀ i, i < sP S4 → S4.2.1 14 i = nI e → ∃ q, q < T7.1 1 ∧ S4.2.1 12 i = nI q) → ordC (opS S4 e c)) ∧
    (∀ x y z, ruR (ch8 T7 e c) x y z ↔ ruR T7 x y z ∨ (x = nI b ∧ y = -1 ∧ z = nI (T7.1 1)) ∨ (x = nI (T7.1 1) ∧ y = c ∧ z = nI (T7.1 1 + 1)) ∨ (x = nI (T7.1 1 + 1) ∧ y = -1 ∧ z = nI (T7.1 1 + 2))) ∧
    (wfF T7 → wfF (ch8 T7 e c)) ∧ (wfS T7 → wfS (ch8 T7 e c)) := by
  obtain ⟨N, eN⟩ : ∃ N, N = T7.1 1 := ⟨_, rfl⟩
  rw [← eN] at hN hb hk ⊢
  obtain ⟨A1, eA1⟩ : ∃ A1, A1 = dr2S S4 (nI b) (-1) := ⟨_, rfl⟩
  have a1N : sN A1 = N + 1 := by rw [eA1, ← hN]; simp [dr2S, frS, tieS, sv1, sN, stN]
  have a1R : sR A1 = sR S4 + 1 := by rw [eA1]; simp [dr2S, frS, tieS, sv1, sR, stN]
  obtain ⟨A2, eA2⟩ : ∃ A2, A2 = dr2S A1 (nI N) c := ⟨_, rfl⟩
  have a2N : sN A2 = N + 2 := by rw [eA2]; have : sN (dr2S A1 (nI N) c) = sN A1 + 1 := by simp [dr2S, frS, tieS, sv1, sN, stN]
                                 rw [this, a1N]
  have a2R : sR A2 = sR S4 + 2 := by rw [eA2]; have : sR (dr2S A1 (nI N) c) = sR A1 + 1 := by simp [dr2S, frS, tieS, sv1, sR, stN]
                                     rw [this, a1R]
  have e1 : op1 S4 e c = A2 := by unfold op1; rw [hsec, hN, eA2, eA1]
  have sqA : sq S4 A2 := by rw [eA2, eA1]; exact (sq_dr2 _ _ _).trans (sq_dr2 _ _ _)
  have a210 : A2.2.1 10 = S4.2.1 10 := by rw [eA2, eA1]; funext i; simp [dr2S, frS, tieS, sv1, stN]
  obtain ⟨A3, eA3⟩ : ∃ A3, A3 = pkS A2 e (fun _ => true) (nI (N + 1)) (sP S4) := ⟨_, rfl⟩
  have e2 : op2 S4 e c = A3 := by unfold op2; rw [e1, hN, eA3]
  have pA := pk_A A2 e (fun _ => true) (nI (N + 1)) (sP S4)
  rw [← eA3] at pA
  have a14 : A2.2.1 14 = S4.2.1 14 := sqA.2.2.2.2 14 (by decide) (by decide)
  have a12 : A2.2.1 12 = S4.2.1 12 := sqA.2.2.2.2 12 (by decide) (by decide)
  rw [pcN_c a14 rfl, a14, a12] at pA
  obtain ⟨A4, eA4⟩ : ∃ A4, A4 = dr2S A3 (nI (N + 1)) (-1) := ⟨_, rfl⟩
  have e3 : op3 S4 e c = A4 := by unfold op3; rw [e2, hN, eA4]
  have a3N : sN A3 = N + 2 := by rw [pA.2.1]; exact a2N
  have a4N : sN A4 = N + 3 := by rw [eA4]; have : sN (dr2S A3 (nI (N + 1)) (-1)) = sN A3 + 1 := by simp [dr2S, frS, tieS, sv1, sN, stN]
                                 rw [this, a3N]
  have a4R : sR A4 = sR S4 + 3 + pcN S4 e (fun _ => true) (sP S4) := by
    have : sR (dr2S A3 (nI (N + 1)) (-1)) = sR A3 + 1 := by simp [dr2S, frS, tieS, sv1, sR, stN]
    rw [eA4, this, pA.1, a2R]; omega
  have eo : opS S4 e c = stN (st1 A4 5 e (nI (N + 2))) 0 0 (e + 1) := by unfold opS; rw [e3, e2, a3N]
  rw [eo]
  have oR : sR (stN (st1 A4 5 e (nI (N + 2))) 0 0 (e + 1)) = sR A4 := by simp [sR, stN, st1]
  have oN : sN (stN (st1 A4 5 e (nI (N + 2))) 0 0 (e + 1)) = sN A4 := by simp [sN, stN, st1]
  refine ⟨⟨by rw [oN]; exact a4N, by rw [oR]; exact a4R⟩, by simp [stN, st1], ?_, fun x y z => ?_, fun ho hp => ?_, fun x y z => ?_, fun hw => ?_, fun hw => ?_⟩
  · have : (stN (st1 A4 5 e (nI (N + 2))) 0 0 (e + 1)).2.1 10 e = A3.2.1 10 e := by rw [eA4]; simp [dr2S, frS, tieS, sv1, stN, st1]
    rw [this, pA.2.2.1, a210]
  · rw [ru_same (S := A4) oR rfl rfl rfl, eA4]
    unfold dr2S
    rw [ru_tie, ru_fr, a3N, pA.2.2.2.1, eA2]
    unfold dr2S
    rw [ru_tie, ru_fr, a1N, eA1]
    unfold dr2S
    rw [ru_tie, ru_fr, hN]
    have pk : (∃ i, i < sP S4 ∧ (S4.2.1 14 i = nI e ∧ (fun _ => true) i = true) ∧ x = S4.2.1 12 i ∧ y = -1 ∧ z = nI (N + 1)) ↔ ∃ i, i < sP S4 ∧ S4.2.1 14 i = nI e ∧ x = S4.2.1 12 i ∧ y = -1 ∧ z = nI (N + 1) := ⟨fun ⟨i, q1, q2, q3⟩ => ⟨i, q1, q2.1, q3⟩, fun ⟨i, q1, q2, q3⟩ => ⟨i, q1, ⟨q2, rfl⟩, q3⟩⟩
    rw [pk]
    constructor
    · rintro ((((q | q) | q) | q) | q)
      · exact Or.inl q
      · exact Or.inr (Or.inl q)
      · exact Or.inr (Or.inr (Or.inl q))
      · exact Or.inr (Or.inr (Or.inr (Or.inl q)))
      · exact Or.inr (Or.inr (Or.inr (Or.inr q)))
    · rintro (q | q | q | q | q)
      · exact Or.inl (Or.inl (Or.inl (Or.inl q)))
      · exact Or.inl (Or.inl (Or.inl (Or.inr q)))
      · exact Or.inl (Or.inl (Or.inr q))
      · exact Or.inl (Or.inr q)
      · exact Or.inr q
  · have o1 : ordC A1 := by
      rw [eA1]; unfold dr2S
      rw [hN]
      exact ord_tie (ord_fr ho) hb (by rw [show sN (frS S4) = sN S4 + 1 by simp [frS, sN, stN], hN]) (Or.inl rfl)
    have o2 : ordC A2 := by
      rw [eA2]; unfold dr2S
      rw [a1N]
      exact ord_tie (ord_fr o1) (by omega) (by rw [show sN (frS A1) = sN A1 + 1 by simp [frS, sN, stN], a1N]) (Or.inr ⟨k, by omega, hc⟩)
    have o3 := pA.2.2.2.2 o2 (N + 1) rfl (by rw [a2N]) (fun i hi h14 => by
      obtain ⟨q, q1, q2⟩ := hp i hi h14
      exact ⟨q, by omega, q2⟩)
    have o4 : ordC A4 := by
      rw [eA4]; unfold dr2S
      rw [a3N]
      exact ord_tie (ord_fr o3) (by omega) (by rw [show sN (frS A3) = sN A3 + 1 by simp [frS, sN, stN], a3N]) (Or.inl rfl)
    exact ord_same oR oN rfl rfl rfl o4
  · have e8 : ch8 T7 e c = ra (mkR (mkR (mkR T7 6 (nI b) 0) 4 (nI N) c) 5 (nI (N + 1)) 0) 14 (upd (T7.2 14) e (nI (N + 2))) := by unfold ch8; rw [hsecR, ← eN]
    rw [e8]
    have g1 : ruR (ra (mkR (mkR (mkR T7 6 (nI b) 0) 4 (nI N) c) 5 (nI (N + 1)) 0) 14 (upd (T7.2 14) e (nI (N + 2)))) x y z ↔ ruR (mkR (mkR (mkR T7 6 (nI b) 0) 4 (nI N) c) 5 (nI (N + 1)) 0) x y z := ruR_sm rfl rfl (fun f hf => by simp [ra, show f ≠ 14 by omega]) x y z
    rw [g1, ru_mk, ru_mk, ru_mk]
    have m1 : (mkR T7 6 (nI b) 0).1 1 = N + 1 := by rw [(mk_f T7 6 (nI b) 0).2.1, eN]
    have m2 : (mkR (mkR T7 6 (nI b) 0) 4 (nI N) c).1 1 = N + 2 := by rw [(mk_f _ 4 (nI N) c).2.1, m1]
    rw [m1, m2, ← eN]
    constructor
    · rintro (((q | ⟨-, -, q1, q2, q3⟩) | ⟨-, -, q1, q2, q3⟩) | ⟨-, -, q1, q2, q3⟩)
      · exact Or.inl q
      · rcases q3 with q3 | q3
        · exact absurd q3.1 (by decide)
        · exact Or.inr (Or.inl ⟨q2, q3.2, q1⟩)
      · rcases q3 with q3 | q3
        · exact Or.inr (Or.inr (Or.inl ⟨q2, q3.2, q1⟩))
        · exact absurd rfl q3.1
      · rcases q3 with q3 | q3
        · exact absurd q3.1 (by decide)
        · exact Or.inr (Or.inr (Or.inr ⟨q2, q3.2, q1⟩))
    · rintro (q | ⟨q1, q2, q3⟩ | ⟨q1, q2, q3⟩ | ⟨q1, q2, q3⟩)
      · exact Or.inl (Or.inl (Or.inl q))
      · exact Or.inl (Or.inl (Or.inr ⟨by decide, by decide, q3, q1, Or.inr ⟨by decide, q2⟩⟩))
      · exact Or.inl (Or.inr ⟨by decide, by decide, q3, q1, Or.inl ⟨rfl, q2⟩⟩)
      · exact Or.inr ⟨by decide, by decide, q3, q1, Or.inr ⟨by decide, q2⟩⟩
  · have e8 : ch8 T7 e c = ra (mkR (mkR (mkR T7 6 (nI b) 0) 4 (nI N) c) 5 (nI (N + 1)) 0) 14 (upd (T7.2 14) e (nI (N + 2))) := by unfold ch8; rw [hsecR, ← eN]
    rw [e8]
    have m1 : (mkR T7 6 (nI b) 0).1 1 = N + 1 := by rw [(mk_f T7 6 (nI b) 0).2.1, eN]
    have m2 : (mkR (mkR T7 6 (nI b) 0) 4 (nI N) c).1 1 = N + 2 := by rw [(mk_f _ 4 (nI N) c).2.1, m1]
    have w1 : wfF (mkR T7 6 (nI b) 0) := wf_mk hw (by omega)
    have w2 : wfF (mkR (mkR T7 6 (nI b) 0) 4 (nI N) c) := wf_mk w1 (by omega)
    have w3 : wfF (mkR (mkR (mkR T7 6 (nI b) 0) 4 (nI N) c) 5 (nI (N + 1)) 0) := wf_mk w2 (by omega)
    exact wf_sm w3 rfl rfl rfl
  · have e8 : ch8 T7 e c = ra (mkR (mkR (mkR T7 6 (nI b) 0) 4 (nI N) c) 5 (nI (N + 1)) 0) 14 (upd (T7.2 14) e (nI (N + 2))) := by unfold ch8; rw [hsecR, ← eN]
    rw [e8]
    have m1 : (mkR T7 6 (nI b) 0).1 1 = N + 1 := by rw [(mk_f T7 6 (nI b) 0).2.1, eN]
    have w1 : wfS (mkR T7 6 (nI b) 0) := wfS_mk hw 0 (Or.inl (by decide))
    have w2 : wfS (mkR (mkR T7 6 (nI b) 0) 4 (nI N) c) := wfS_mk w1 c (Or.inr ⟨k, by omega, hc⟩)
    have w3 : wfS (mkR (mkR (mkR T7 6 (nI b) 0) 4 (nI N) c) 5 (nI (N + 1)) 0) := wfS_mk w2 0 (Or.inl (by decide))
    exact wfS_sm w3 rfl rfl rfl
