/-! J BEHIND A COMMIT: pieces -/
theorem inj5 {S : SC} {R : SR} (h : J S R) {a D : Nat} {S3 : SC} {T5 : SR} (hA : AD S R S3 T5 (R.1 12) a D) : ∀ v w, v < 31 → w < 31 → rK T5 (R.1 12) v = rK T5 (R.1 12) w → rK T5 (R.1 12) v ≠ -1 → v = w := by
  obtain ⟨⟨⟨n1, n2, n3⟩, ⟨p1, p2⟩, ⟨q1, q2⟩, ⟨c1, c2, c3⟩, -⟩, -, -, ⟨hT, -⟩, hM, ⟨hK, hKo⟩, ⟨hP, hPd⟩, ⟨ρ, -, -, l3, l4, l5, l6, -⟩, -⟩ := h
  obtain ⟨D9, -, -, -, -, hinj⟩ := hT (R.1 12 - 1) (by omega)
  have uk : ∀ j, j < R.1 42 → R.2 43 j = 2 → (∃ u, u < R.1 1 ∧ R.2 45 j = nI u ∧ ρ u = 5) ∧ ∀ v, v < 31 → rK R (R.1 12 - 1) v ≠ R.2 45 j := fun j hj h2 => by
    obtain ⟨-, ⟨q, g2, g3, g4, g5⟩, -⟩ := hP j hj
    obtain ⟨k, k1, k2⟩ := g5 h2
    rw [k2]
    exact ⟨l4 q k g2 k1, fun v hv => l6 q k (R.1 12 - 1) (R.1 12 - 1) v g2 k1 g4 (by omega) (Nat.le_refl _) hv⟩
  have sk : ∀ p, p < R.1 35 → T5.2 39 p = nI (R.1 12) → (∃ u, u < R.1 1 ∧ R.2 38 p = nI u ∧ ρ u = 4) ∧ ∀ v, v < 31 → rK R (R.1 12 - 1) v ≠ R.2 38 p := fun p hp h39 => by
    obtain ⟨-, -, ⟨f, f1, f2, f3⟩, -, g9⟩ := hK p hp
    refine ⟨⟨f + 1, f1, f3, (l3 p f hp f2 f1).2⟩, fun v hv q => ?_⟩
    obtain ⟨f9, w1, w2⟩ := l5 (R.1 12 - 1) v p (by omega) hv hp q
    obtain ⟨-, -, g⟩ := hA.2.1 p hp
    rcases g with g | g
    · rw [g.1, w2] at h39
      have := (nI_eq (by omega) (by omega)).mp h39
      omega
    · rw [g.1] at w2; exact nI_ne1 (by omega) w2.symm
  have ne : ∀ {p q : Nat}, p < R.1 1 → q < R.1 1 → nI p = nI q → p = q := fun hp hq e => (nI_eq (by omega) (by omega)).mp e
  intro v w hv hw he hn
  have hn2 : rK T5 (R.1 12) w ≠ -1 := by rw [← he]; exact hn
  rcases hA.2.2 v hv hn with a1 | ⟨l, j, a1, a2, a3, a4, a5, a6⟩ | ⟨l, p, a1, a2, a3, a4, a5, a6⟩
  · rcases hA.2.2 w hw hn2 with b1 | ⟨l', j', b1, b2, b3, b4, b5, b6⟩ | ⟨l', p', b1, b2, b3, b4, b5, b6⟩
    · exact hinj v w hv hw (by rw [← a1, ← b1]; exact he) (by rw [← a1]; exact hn)
    · exact absurd (by rw [← a1, he, b6]) ((uk j' b3 b4).2 v hv)
    · exact absurd (by rw [← a1, he, b6]) ((sk p' b3 b4).2 v hv)
  · rcases hA.2.2 w hw hn2 with b1 | ⟨l', j', b1, b2, b3, b4, b5, b6⟩ | ⟨l', p', b1, b2, b3, b4, b5, b6⟩
    · exact absurd (by rw [← b1, ← he, a6]) ((uk j a3 a4).2 w hw)
    · have hjj : j = j' := by
        by_cases q : j = j'
        · exact q
        · exfalso
          have e9 : R.2 45 j = R.2 45 j' := by rw [← a6, ← b6]; exact he
          rcases Nat.lt_or_gt_of_ne q with q | q
          · exact hPd j j' q b3 a4 b4 e9
          · exact hPd j' j q a3 b4 a4 e9.symm
      subst hjj
      omega
    · exfalso
      obtain ⟨⟨u, u1, u2, u3⟩, -⟩ := uk j a3 a4
      obtain ⟨⟨u', u1', u2', u3'⟩, -⟩ := sk p' b3 b4
      have e9 : nI u = nI u' := by rw [← u2, ← u2', ← a6, ← b6]; exact he
      have := ne u1 u1' e9
      subst this
      omega
  · rcases hA.2.2 w hw hn2 with b1 | ⟨l', j', b1, b2, b3, b4, b5, b6⟩ | ⟨l', p', b1, b2, b3, b4, b5, b6⟩
    · exact absurd (by rw [← b1, ← he, a6]) ((sk p a3 a4).2 w hw)
    · exfalso
      obtain ⟨⟨u, u1, u2, u3⟩, -⟩ := uk j' b3 b4
      obtain ⟨⟨u', u1', u2', u3'⟩, -⟩ := sk p a3 a4
      have e9 : nI u = nI u' := by rw [← u2, ← u2', ← a6, ← b6]; exact he.symm
      have := ne u1 u1' e9
      subst this
      omega
    · have hpp : p = p' := by
        by_cases q : p = p'
        · exact q
        · exfalso
          have e9 : R.2 38 p = R.2 38 p' := by rw [← a6, ← b6]; exact he
          have key : ∀ s t, s < t → t < R.1 35 → R.2 38 s ≠ R.2 38 t := fun s t hst ht q9 => by
            obtain ⟨f, g, f1, g1, hfg, hg⟩ := hKo s t hst ht
            obtain ⟨-, -, ⟨f', w1, w2, w3⟩, -⟩ := hK t ht
            rw [f1, w3] at q9
            rw [g1] at w2
            have e1 := ne (by omega) w1 q9
            have e2 := ne hg (by omega) w2
            omega
          rcases Nat.lt_or_gt_of_ne q with q | q
          · exact key p p' q b3 e9
          · exact key p' p q a3 e9.symm
      subst hpp
      rw [a5] at b5
      have := (nI_eq (by omega) (by omega)).mp b5
      omega
