/-! one step of the path -/
theorem nx_f (X : SC) (p : Int32) : sN (nxS X p) = sN X + 1 ∧ (nxS X p).2.1 10 = X.2.1 10 ∧ sR (nxS X p) ≤ sR X + 1 ∧ sq X (nxS X p) := by
  unfold nxS
  by_cases h : p = -1
  · rw [if_pos h]; exact ⟨by simp [frS, sN, stN], rfl, by simp [frS, sR, stN], sq_fr X⟩
  · rw [if_neg h]; exact ⟨by simp [dr2S, frS, tieS, sv1, sN, stN], by funext i; simp [dr2S, frS, tieS, sv1, stN], by simp [dr2S, frS, tieS, sv1, sR, stN], sq_dr2 X p (-1)⟩
theorem nx_ru (X : SC) (Y : SR) (p : Int32) (hN : sN X = Y.1 1) (hp : p = -1 ∨ ∃ s, p = nI s ∧ s < Y.1 1) : (∀ x y z, ruC (nxS X p) x y z ↔ ruC X x y z ∨ (p ≠ -1 ∧ x = p ∧ y = -1 ∧ z = nI (Y.1 1))) ∧ (∀ x y z, ruR (nmR Y p) x y z ↔ ruR Y x y z ∨ (p ≠ -1 ∧ x = p ∧ y = -1 ∧ z = nI (Y.1 1))) ∧ (ordC X → ordC (nxS X p)) ∧ (wfF Y → wfF (nmR Y p)) ∧ (wfS Y → wfS (nmR Y p)) := by
  unfold nxS nmR
  by_cases h : p = -1
  · rw [if_pos h, if_pos h]
    refine ⟨fun x y z => ?_, fun x y z => ?_, ord_fr, wf_mk1, fun hw => wfS_mk hw 0 (Or.inl (by decide))⟩
    · rw [ru_fr]; exact ⟨Or.inl, fun q => q.elim id (fun q => absurd h q.1)⟩
    · rw [ru_mk]; exact ⟨fun q => q.imp id (fun q => absurd rfl q.2.1), fun q => q.imp id (fun q => absurd h q.1)⟩
  · rw [if_neg h, if_neg h]
    obtain ⟨s, hs, hs1⟩ := hp.resolve_left h
    refine ⟨fun x y z => ?_, fun x y z => ?_, fun ho => ?_, fun hw => ?_, fun hw => wfS_mk hw 0 (Or.inl (by decide))⟩
    · unfold dr2S
      rw [ru_tie, ru_fr, hN]
      exact ⟨fun q => q.imp id (fun q => ⟨h, q⟩), fun q => q.imp id (fun q => q.2)⟩
    · rw [ru_mk]
      constructor
      · rintro (q | ⟨-, -, q1, q2, q3⟩)
        · exact Or.inl q
        · rcases q3 with q3 | q3
          · exact absurd q3.1 (by decide)
          · exact Or.inr ⟨h, q2, q3.2, q1⟩
      · rintro (q | ⟨-, q1, q2, q3⟩)
        · exact Or.inl q
        · exact Or.inr ⟨by decide, by decide, q3, q1, Or.inr ⟨by decide, q2⟩⟩
    · unfold dr2S
      rw [hs]
      exact ord_tie (ord_fr ho) (by omega) (by simp [frS, sN, stN]) (Or.inl rfl)
    · rw [hs]; exact wf_mk hw hs1
theorem pa_base {S : SC} {T : SR} {e a D N0 : Nat} (h : PH S T e a D N0) : PA S T e a D N0 0 (mpL S e a 0).1 (rnL T e a 0).1 (-1) := by
  obtain ⟨⟨ha, haD, he⟩, hTE, hTI, ⟨n1, n2, n3⟩, ⟨h9, h9b⟩, ⟨h6, h6b⟩, h10, hru, hor, hwf, hwS, hKB, hpk, h12, hb1, hb2⟩ := h
  have eX : (mpL S e a 0).1 = gvS (frS S) e (2 * a) (nI (sN S)) (nI e) := rfl
  have eY : (rnL T e a 0).1 = stR (mkR T 1 0 0) e (2 * a) (nI (T.1 1)) := rfl
  rw [eX, eY, n1, n2]
  have m1 := mk_f T 1 0 0
  have sf := st_f (mkR T 1 0 0) e (2 * a) (nI N0)
  have sk := rK_st (mkR T 1 0 0) e (2 * a) (nI N0)
  obtain ⟨Y, eY2⟩ : ∃ Y, Y = stR (mkR T 1 0 0) e (2 * a) (nI N0) := ⟨_, rfl⟩
  rw [← eY2] at sf sk ⊢
  have kK : rK (mkR T 1 0 0) e = rK T e := by funext w; simp only [rK]; rw [m1.2.2 22 (by decide) (by decide) (by decide)]
  have kU : rU (mkR T 1 0 0) e = rU T e := by funext w; simp only [rU]; rw [m1.2.2 23 (by decide) (by decide) (by decide)]
  rw [kK] at sk
  rw [kU] at sk
  have y1 : Y.1 1 = N0 + 1 := by rw [sf.1, m1.2.1, n2]
  have y7 : Y.1 7 = T.1 7 := by rw [sf.1, m1.1 7 (by decide)]
  have yf : ∀ f, f ≠ 2 → f ≠ 3 → f ≠ 4 → f ≠ 22 → f ≠ 23 → f ≠ 24 → Y.2 f = T.2 f := fun f k1 k2 k3 k4 k5 k6 => (sf.2 f k4 k5 k6).trans (m1.2.2 f k1 k2 k3)
  have y16 : Y.2 16 e = 0 := by rw [yf 16 (by decide) (by decide) (by decide) (by decide) (by decide) (by decide)]; exact h6b
  have h2w := (tW_lf D hTI.1 a ha).mpr haD
  have hru1 : ∀ x y z, ruR Y x y z ↔ ruR T x y z := fun x y z => by
    rw [ruR_sm (X := mkR T 1 0 0) (by rw [sf.1]) (by rw [sf.1]) (fun f hf => sf.2 f (by omega) (by omega) (by omega)) x y z, ru_mk]
    exact ⟨fun q => q.elim id (fun q => absurd rfl q.2.1), Or.inl⟩
  refine ⟨⟨?_, by omega, by omega⟩, ?_, ?_, ⟨fun v hv hn => ?_, ⟨?_, ?_⟩, fun i h1 h2 => absurd h1 (by omega), fun i j h1 h2 => absurd h1 (by omega), fun v hv hb => ?_⟩, Or.inl rfl, ⟨?_, ?_⟩, ?_, fun x y z => ?_, ?_, ?_, ⟨by rw [y7]; simp, enx.sm y7 (fun f k1 k2 => yf f (by omega) (by omega) (by omega) (by omega) (by omega) (by omega)), fun i h1 h2 => absurd h1 (by omega)⟩, ?_, fun i h1 h2 => absurd h1 (by omega)⟩
  · rw [y1, ← n1]; simp [gvS, trS, st2, frS, sN, stN]
  · exact TE_gv (X := frS S) (Y := T) (k := nI N0) ⟨hTE.1, hTE.2.1, hTE.2.2⟩ Y (by rw [yf 13 (by decide) (by decide) (by decide) (by decide) (by decide) (by decide)]; exact hTE.2.1) sk.1 sk.2.1 (fun w hw hn => by rw [sk.2.2 w, if_neg hn, m1.2.2 24 (by decide) (by decide) (by decide)]) (by rw [if_neg (nI_ne1 (by omega)), sk.2.2, if_pos rfl])
  · rw [y16, ← h6b, ← h6]; rfl
  · have hne : v ≠ 2 * a := by have := hn 0 (Nat.le_refl _); rw [pn_0] at this; exact this
    rw [sk.1, sk.2.1]; simp [upd, hne]
  · rw [sk.1]; simp [upd]
  · rw [sk.2.1]; simp [upd]
  · rw [y16, tb_0] at hb; cases hb
  · exact wf_sm (wf_mk1 (p := 0) (q := 0) hwf) (by rw [sf.1]) (sf.2 2 (by decide) (by decide) (by decide)) (sf.2 3 (by decide) (by decide) (by decide))
  · exact wfS_sm (wfS_mk (k := 1) (p := 0) hwS 0 (Or.inl (by decide))) (by rw [sf.1]) (sf.2 2 (by decide) (by decide) (by decide)) (sf.2 4 (by decide) (by decide) (by decide))
  · rw [sk.1, sk.2.1]
    exact TI_set hTI (by omega) h2w (Or.inl (nI_ne1 (by omega)))
  · have hgv : ruC (gvS (frS S) e (2 * a) (nI N0) (nI e)) x y z ↔ ruC (frS S) x y z := ru_same rfl rfl rfl rfl x y z
    rw [hru1, ← hru, hgv, ru_fr]
    exact ⟨Or.inl, fun q => q.elim id (fun ⟨i, _, _, ⟨j, hj, _⟩, _⟩ => absurd hj (Nat.not_lt_zero j))⟩
  · show S.2.1 10 e = Y.2 20 e + nI 0
    rw [yf 20 (by decide) (by decide) (by decide) (by decide) (by decide) (by decide), show nI 0 = 0 from rfl, Int32.add_zero]; exact h10
  · exact ord_same rfl rfl rfl rfl rfl (ord_fr hor)
  · show sR S + T.1 1 + T.1 7 ≤ sR S + Y.1 1 + Y.1 7 + 0
    omega
