/-! J behind add, remove -/
theorem j_prop {S : SC} {R : SR} (h : J S R) {m b : Nat} {k : Int32} (hm : m < 16) (hl : R.2 27 m = nI (R.1 12 - 1)) (hQ : R.1 42 < 20) (hk : (k = 0 ∧ b < R.1 35) ∨ (k = 1 ∧ b < 16)) : J (prS S k (nI b) (-1)) (prR R k (nI m) (nI b)) := by
  have hfr := j_fr (T := prS S k (nI b) (-1)) (W := prR R k (nI m) (nI b)) h rfl (fun f k1 k2 _ => by simp [prR, ri, ra, show f ≠ 45 by omega, show f ≠ 44 by omega, show f ≠ 43 by omega]) (by funext i; simp [prS, stN, st1]) (fun c _ => rfl) (fun c hc => by funext i; simp [prS, stN, st1, show c ≠ 19 by omega, show c ≠ 18 by omega, show c ≠ 17 by omega]) (Nat.le_refl _) (enx.sm rfl (fun f k1 k2 => by simp [prR, ri, ra, show f ≠ 45 by omega, show f ≠ 44 by omega, show f ≠ 43 by omega]))
  obtain ⟨⟨a1, a2, ⟨a3, a4⟩, ⟨a5, a6, a7⟩, a8, a9⟩, hZ, hX, hT, hM, hK, ⟨hP, hPd⟩, hL, hW, hC, hH, hF⟩ := h
  obtain ⟨S', eS'⟩ : ∃ S', S' = prS S k (nI b) (-1) := ⟨_, rfl⟩
  have u1 : (prS S k (nI b) (-1)).1 1 = S.1 1 := by funext i; simp [prS, stN, st1]
  have u17 : ∀ i, (prS S k (nI b) (-1)).2.1 17 i = if i = sQ S then k else S.2.1 17 i := fun i => by simp [prS, stN, st1]
  have u18 : ∀ i, (prS S k (nI b) (-1)).2.1 18 i = if i = sQ S then nI b else S.2.1 18 i := fun i => by simp [prS, stN, st1]
  have u19 : ∀ i, (prS S k (nI b) (-1)).2.1 19 i = if i = sQ S then -1 else S.2.1 19 i := fun i => by simp [prS, stN, st1]
  have r43 : ∀ i, (prR R k (nI m) (nI b)).2 43 i = if i = R.1 42 then k else R.2 43 i := fun i => by simp [prR, ri, ra, upd]
  have r44 : ∀ i, (prR R k (nI m) (nI b)).2 44 i = if i = R.1 42 then nI m else R.2 44 i := fun i => by simp [prR, ri, ra, upd]
  have r45 : ∀ i, (prR R k (nI m) (nI b)).2 45 i = if i = R.1 42 then nI b else R.2 45 i := fun i => by simp [prR, ri, ra, upd]
  have r42 : (prR R k (nI m) (nI b)).1 42 = R.1 42 + 1 := by simp [prR, ri, ra]
  have hk2 : k ≠ 2 := by rcases hk with q | q <;> rw [q.1] <;> decide
  refine ⟨⟨a1, a2, ⟨?_, by rw [r42]; omega⟩, ⟨a5, a6, ?_⟩, a8, a9⟩, hZ, hfr.1, hfr.2.1, fun q hq => ?_, hK, ⟨fun i hi => ?_, fun i j hij hj => ?_⟩, hL, hW, hC, hfr.2.2, hF⟩
  · show S.1 0 2 + 1 = _
    rw [r42]; exact congrArg (· + 1) a3
  · show R.1 1 + 30 ≤ 2 * R.1 35 + 33 * R.1 12 + (R.1 42 + 1)
    omega
  · obtain ⟨g, g7⟩ := hM q hq
    refine ⟨g, g7.imp id (fun ⟨e, l, i1, i2, i3, i4, i5, i6, i7, i8, i9, i10, i11, i12⟩ => ⟨e, l, i1, i2, i3, i4, i5, i6, i7, i8, i9, i10, i11, fun z => ?_⟩)⟩
    have := i12 z
    rw [u1, r42]; omega
  · rw [r42] at hi
    rw [u17, u18, u19, r43, r44, r45, a3]
    by_cases z : i = R.1 42
    · rw [if_pos z, if_pos z, if_pos z, if_pos z, if_pos z, if_pos z]
      refine ⟨rfl, ⟨m, hm, rfl, hl, fun q => absurd q hk2⟩, ?_, fun _ => rfl, fun q => absurd q hk2, fun q => ?_, fun q => ?_⟩
      · rcases hk with q | q
        · exact Or.inl q.1
        · exact Or.inr (Or.inl q.1)
      · rcases hk with w | w
        · rw [w.1] at q; exact absurd q (by decide)
        · exact ⟨b, w.2, rfl⟩
      · rcases hk with w | w
        · exact ⟨b, w.2, rfl⟩
        · rw [w.1] at q; exact absurd q (by decide)
    · rw [if_neg z, if_neg z, if_neg z, if_neg z, if_neg z, if_neg z]
      obtain ⟨g1, ⟨q, g2, g3, g4, g5⟩, g6, g7, g8, g9, g10⟩ := hP i (by omega)
      refine ⟨g1, ⟨q, g2, g3, g4, fun w => ?_⟩, g6, g7, g8, g9, g10⟩
      obtain ⟨k9, k1, k2⟩ := g5 w
      exact ⟨k9, by rw [u1]; exact k1, k2⟩
  · rw [r42] at hj
    rw [r43, r43, r45, r45]
    by_cases z : j = R.1 42
    · rw [if_pos z, if_pos z]; exact fun _ q => absurd q hk2
    · rw [if_neg z, if_neg z, if_neg (by omega), if_neg (by omega)]
      exact hPd i j hij (by omega)
