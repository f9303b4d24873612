/-! J AT THE START -/
theorem lvI_f (T : SR) : ∀ i, (lvI T i).1 = T.1 ∧ (∀ f, f ≠ 27 → f ≠ 28 → f ≠ 29 → f ≠ 31 → f ≠ 32 → f ≠ 33 → (lvI T i).2 f = T.2 f) ∧ ∀ m, m < i → (lvI T i).2 27 m = -1 ∧ (lvI T i).2 28 m = -1 ∧ (lvI T i).2 29 m = -1 ∧ (lvI T i).2 32 m = 0 ∧ (lvI T i).2 31 m = 0 ∧ ∀ v, v < 31 → (lvI T i).2 33 (31 * m + v) = -1 := by
  intro i
  induction i with
  | zero => exact ⟨rfl, fun _ _ _ _ _ _ _ => rfl, fun m hm => absurd hm (Nat.not_lt_zero _)⟩
  | succ i ih =>
    obtain ⟨h1, h2, h3⟩ := ih
    show (lvR (lvI T i) i).1 = T.1 ∧ (∀ f, f ≠ 27 → f ≠ 28 → f ≠ 29 → f ≠ 31 → f ≠ 32 → f ≠ 33 → (lvR (lvI T i) i).2 f = T.2 f) ∧ ∀ m, m < i + 1 → (lvR (lvI T i) i).2 27 m = -1 ∧ (lvR (lvI T i) i).2 28 m = -1 ∧ (lvR (lvI T i) i).2 29 m = -1 ∧ (lvR (lvI T i) i).2 32 m = 0 ∧ (lvR (lvI T i) i).2 31 m = 0 ∧ ∀ v, v < 31 → (lvR (lvI T i) i).2 33 (31 * m + v) = -1
    obtain ⟨W, eW⟩ : ∃ W, W = lvI T i := ⟨_, rfl⟩
    rw [← eW] at h1 h2 h3 ⊢
    refine ⟨h1, fun f a b c d e g => by simp [lvR, lvR0, ra, a, b, c, d, e, g, h2 f a b c d e g], fun m hm => ?_⟩
    by_cases q : m = i
    · subst q
      refine ⟨by simp [lvR, lvR0, ra, upd], by simp [lvR, lvR0, ra, upd], by simp [lvR, lvR0, ra, upd], by simp [lvR, lvR0, ra, upd], by simp [lvR, lvR0, ra, upd], fun v hv => ?_⟩
      unfold lvR; rw [ra_at]; simp only [nkF]; rw [if_pos (by omega)]
    · obtain ⟨g1, g2, g3, g4, g5, g6⟩ := h3 m (by omega)
      refine ⟨by simp [lvR, lvR0, ra, upd, q, g1], by simp [lvR, lvR0, ra, upd, q, g2], by simp [lvR, lvR0, ra, upd, q, g3], by simp [lvR, lvR0, ra, upd, q, g4], by simp [lvR, lvR0, ra, upd, q, g5], fun v hv => ?_⟩
      unfold lvR; rw [ra_at]; simp only [nkF]; rw [if_neg (by omega)]; exact g6 v hv
theorem r0_f : ∃ R, R = r0 ∧ (R.1 1 = 3 ∧ R.1 12 = 1 ∧ R.1 7 = 0 ∧ R.1 35 = 0 ∧ R.1 42 = 0) ∧ (R.2 2 0 = 0 ∧ R.2 2 1 = 1 ∧ R.2 2 2 = 1 ∧ ∀ k, R.2 5 k = 0) ∧ (R.2 13 0 = 0 ∧ R.2 14 0 = nI 2 ∧ R.2 15 0 = -1 ∧ ∀ e, R.2 16 e = 0 ∧ R.2 17 e = 0 ∧ R.2 18 e = 0 ∧ R.2 19 e = 0 ∧ R.2 20 e = 0) ∧ (∀ v, v < 31 → R.2 22 v = (if v = 0 then nI 1 else -1) ∧ R.2 23 v = 0 ∧ R.2 24 v = 0) ∧ (∀ l, l < 16 → R.2 26 l = if l = 0 then 0 else -1) ∧ (∀ m, m < 16 → R.2 27 m = (if m = 0 then 0 else -1) ∧ R.2 28 m = (if m = 0 then 0 else -1) ∧ R.2 29 m = (if m = 0 then nI 1 else -1) ∧ R.2 30 m = 0 ∧ R.2 31 m = 0 ∧ R.2 32 m = (if m = 0 then 1 else 0) ∧ ∀ v, v < 31 → R.2 33 (31 * m + v) = -1) ∧ ∀ p, R.2 41 p = 0 := by
  refine ⟨_, rfl, ?_⟩
  unfold r0
  obtain ⟨h1, h2, h3⟩ := lvI_f (mkR r00 0 0 0) 16
  obtain ⟨T, eT⟩ : ∃ T, T = lvI (mkR r00 0 0 0) 16 := ⟨_, rfl⟩
  rw [← eT] at h1 h2 h3 ⊢
  have n1 : T.1 1 = 1 := by rw [h1]; rfl
  have n12 : T.1 12 = 0 := by rw [h1]; rfl
  have n7 : T.1 7 = 0 := by rw [h1]; rfl
  have n35 : T.1 35 = 0 := by rw [h1]; rfl
  have n42 : T.1 42 = 0 := by rw [h1]; rfl
  have z : ∀ f, f ≠ 27 → f ≠ 28 → f ≠ 29 → f ≠ 31 → f ≠ 32 → f ≠ 33 → ∀ k, T.2 f k = 0 := fun f a b c d e g k => by
    rw [h2 f a b c d e g]
    by_cases q2 : f = 2
    · subst q2; simp [mkR, ri, ra, upd, r00]
    · by_cases q3 : f = 3
      · subst q3; simp [mkR, ri, ra, upd, r00]
      · by_cases q4 : f = 4
        · subst q4; simp [mkR, ri, ra, upd, r00]
        · simp [mkR, ri, ra, q2, q3, q4, r00]
  have zz := fun f (hf : (decide (f ≠ 27) && decide (f ≠ 28) && decide (f ≠ 29) && decide (f ≠ 31) && decide (f ≠ 32) && decide (f ≠ 33)) = true) => z f (by simp at hf; omega) (by simp at hf; omega) (by simp at hf; omega) (by simp at hf; omega) (by simp at hf; omega) (by simp at hf; omega)
  refine ⟨⟨?_, ?_, ?_, ?_, ?_⟩, ⟨?_, ?_, ?_, ?_⟩, ⟨?_, ?_, ?_, ?_⟩, ?_, ?_, ?_, ?_⟩
  · simp [q09, q08, q07, q06, q05, q04, q03, q02, mkR, ri, ra, n1]
  · simp [q09, q08, q07, q06, q05, q04, q03, q02, mkR, ri, ra, n1]
  · simp [q09, q08, q07, q06, q05, q04, q03, q02, mkR, ri, ra, n7]
  · simp [q09, q08, q07, q06, q05, q04, q03, q02, mkR, ri, ra, n35]
  · simp [q09, q08, q07, q06, q05, q04, q03, q02, mkR, ri, ra, n42]
  · simp [q09, q08, q07, q06, q05, q04, q03, q02, mkR, ri, ra, n1, upd, zz 2 (by decide)]
  · simp [q09, q08, q07, q06, q05, q04, q03, q02, mkR, ri, ra, n1, upd, zz 2 (by decide)]
  · simp [q09, q08, q07, q06, q05, q04, q03, q02, mkR, ri, ra, n1, upd, zz 2 (by decide)]
  · intro k; simp [q09, q08, q07, q06, q05, q04, q03, q02, mkR, ri, ra, n1, upd, zz 5 (by decide)]
  · simp [q09, q08, q07, q06, q05, q04, q03, q02, mkR, ri, ra, n1, upd, zz 13 (by decide)]
  · simp [q09, q08, q07, q06, q05, q04, q03, q02, mkR, ri, ra, n1, upd, zz 14 (by decide)]
  · simp [q09, q08, q07, q06, q05, q04, q03, q02, mkR, ri, ra, n1, upd, zz 15 (by decide)]
  · intro e
    refine ⟨?_, ?_, ?_, ?_, ?_⟩
    · simp [q09, q08, q07, q06, q05, q04, q03, q02, mkR, ri, ra, n1, upd, zz 16 (by decide)]
    · simp [q09, q08, q07, q06, q05, q04, q03, q02, mkR, ri, ra, n1, upd, zz 17 (by decide)]
    · simp [q09, q08, q07, q06, q05, q04, q03, q02, mkR, ri, ra, n1, upd, zz 18 (by decide)]
    · simp [q09, q08, q07, q06, q05, q04, q03, q02, mkR, ri, ra, n1, upd, zz 19 (by decide)]
    · simp [q09, q08, q07, q06, q05, q04, q03, q02, mkR, ri, ra, n1, upd, zz 20 (by decide)]
  · intro v hv
    refine ⟨?_, ?_, ?_⟩
    · have hs : seg 0 1860 (fun _ => -1) (T.2 22) v = -1 := by unfold seg; rw [if_pos (by omega)]
      simp [q09, q08, q07, q06, q05, q04, q03, q02, mkR, ri, ra, n1, upd, hs]
    · simp [q09, q08, q07, q06, q05, q04, q03, q02, mkR, ri, ra, n1, upd, zz 23 (by decide)]
    · simp [q09, q08, q07, q06, q05, q04, q03, q02, mkR, ri, ra, n1, upd, zz 24 (by decide)]
  · intro l hl
    have hs : seg 0 960 (fun _ => -1) (T.2 26) l = -1 := by unfold seg; rw [if_pos (by omega)]
    simp [q09, q08, q07, q06, q05, q04, q03, q02, mkR, ri, ra, n1, upd, hs]
  · intro m hm
    obtain ⟨g1, g2, g3, g4, g5, g6⟩ := h3 m hm
    refine ⟨?_, ?_, ?_, ?_, ?_, ?_, fun v hv => ?_⟩
    · simp [q09, q08, q07, q06, q05, q04, q03, q02, mkR, ri, ra, n1, upd, g1]
    · simp [q09, q08, q07, q06, q05, q04, q03, q02, mkR, ri, ra, n1, upd, g2]
    · simp [q09, q08, q07, q06, q05, q04, q03, q02, mkR, ri, ra, n1, upd, g3]
    · simp [q09, q08, q07, q06, q05, q04, q03, q02, mkR, ri, ra, n1, upd, zz 30 (by decide)]
    · simp [q09, q08, q07, q06, q05, q04, q03, q02, mkR, ri, ra, n1, upd, g5]
    · simp [q09, q08, q07, q06, q05, q04, q03, q02, mkR, ri, ra, n1, upd, g4]
    · simp [q09, q08, q07, q06, q05, q04, q03, q02, mkR, ri, ra, n1, upd, g6 v hv]
  · intro p; simp [q09, q08, q07, q06, q05, q04, q03, q02, mkR, ri, ra, n1, upd, zz 41 (by decide)]
theorem j_0 : J s0 r0 := by
  obtain ⟨R, eR, ⟨n1, n12, n7, n35, n42⟩, ⟨k0, k1, k2, k5⟩, ⟨e13, e14, e15, e16⟩, hT, hO, hM, h41⟩ := r0_f
  rw [← eR]
  have c0 : ∀ m, s0.2.1 0 m = if m = 0 then 0 else -1 := fun m => by by_cases q : m = 0 <;> simp [s0, mbS, st1, st2, stN, s00, q]; rfl
  have c1 : ∀ m, s0.2.1 1 m = if m = 0 then 0 else -1 := fun m => by by_cases q : m = 0 <;> simp [s0, mbS, st1, st2, stN, s00, q]; rfl
  have c2 : ∀ m, s0.2.1 2 m = if m = 0 then nI 2 else -1 := fun m => by by_cases q : m = 0 <;> simp [s0, mbS, st1, st2, stN, s00, q]
  have c3 : ∀ m, s0.2.1 3 m = 0 := fun m => by by_cases q : m = 0 <;> simp [s0, mbS, st1, st2, stN, s00, q]
  have c21 : ∀ k, s0.2.1 21 k = if k = 0 then 1 else 0 := fun k => by simp [s0, mbS, st1, st2, stN, s00, upd]
  have u1 : ∀ m, s0.1 1 m = 0 := fun m => by by_cases q : m = 0 <;> simp [s0, mbS, st1, st2, stN, s00, q]
  have f0 : ∀ m i, i < 5 → s0.2.2 0 m i = if m = 0 ∧ i = 0 then nI 1 else -1 := fun m i hi => by
    by_cases q : m = 0 <;> by_cases z : i = 0 <;> simp [s0, mbS, st1, st2, stN, s00, q, upd, z, fl, hi]
  have f2 : ∀ v, v < 31 → s0.2.2 2 0 v = if v = 0 then nI 1 else -1 := fun v hv => by
    by_cases z : v = 0 <;> simp [s0, mbS, st1, st2, stN, s00, upd, z, fl, hv]
  have f3 : ∀ v, v < 31 → s0.2.2 3 0 v = if v = 0 then 0 else -1 := fun v hv => by
    by_cases z : v = 0 <;> simp [s0, mbS, st1, st2, stN, s00, upd, z, fl, hv]
  have f4 : ∀ v, s0.2.2 4 0 v = 0 := fun v => by
    by_cases z : v = 0 <;> simp [s0, mbS, st1, st2, stN, s00, upd, z]
  have c20 : ∀ l, l < 16 → s0.2.1 20 l = if l = 0 then 0 else -1 := fun v hv => by
    by_cases z : v = 0 <;> simp [s0, mbS, st1, st2, stN, s00, upd, z, fl, hv]
  have d2 : s0.1 2 0 = 0 := by simp [s0, mbS, st1, st2, stN, s00]
  have eE : sE s0 = 1 := by simp [sE, s0, mbS, st1, st2, stN, s00]
  have eP : sP s0 = 0 := by simp [sP, s0, mbS, st1, st2, stN, s00]
  have eQ : sQ s0 = 0 := by simp [sQ, s0, mbS, st1, st2, stN, s00]
  have eN : sN s0 = 3 := by simp [sN, s0, mbS, st1, st2, stN, s00]
  have eR0 : sR s0 = 0 := by simp [sR, s0, mbS, st1, st2, stN, s00]
  have x4 : s0.2.1 4 0 = -1 := by simp [s0, mbS, st1, st2, stN, s00]
  have x5 : s0.2.1 5 0 = nI 2 := by simp [s0, mbS, st1, st2, stN, s00]
  have x6 : s0.2.1 6 0 = 0 ∧ s0.2.1 7 0 = 0 ∧ s0.2.1 8 0 = 0 ∧ s0.2.1 9 0 = 0 ∧ s0.2.1 10 0 = 0 := by simp [s0, mbS, st1, st2, stN, s00]
  clear eR
  obtain ⟨S, eS⟩ : ∃ S, S = s0 := ⟨_, rfl⟩
  rw [← eS] at c0 c1 c2 c3 c21 u1 f0 f2 f3 f4 c20 d2 eE eP eQ eN eR0 x4 x5 x6 ⊢
  clear eS
  have rk : ∀ v, v < 31 → rK R 0 v = if v = 0 then nI 1 else -1 := fun v hv => by
    unfold rK; rw [show 31 * 0 + v = v by omega]; exact (hT v hv).1
  have ru : ∀ v, v < 31 → rU R 0 v = 0 := fun v hv => by
    unfold rU; rw [show 31 * 0 + v = v by omega]; exact (hT v hv).2.1
  have oo : ∀ l, l < 16 → ow R 0 l = if l = 0 then 0 else -1 := fun l hl => by
    unfold ow; rw [show 16 * 0 + l = l by omega]; exact hO l hl
  have e0 : ∀ e, e < R.1 12 → e = 0 := fun e he => by omega
  have ne2 : (0 : Int32) ≠ -1 := by decide
  have no1 : nI 1 ≠ -1 := by decide
  have no2 : nI 2 ≠ -1 := by decide
  have z0 : (0 : Int32) = nI 0 := rfl
  have kk : ∀ k, k < R.1 1 → (R.2 2 k = 0 ↔ k = 0) := fun k hk => by
    have : k = 0 ∨ k = 1 ∨ k = 2 := by omega
    rcases this with rfl | rfl | rfl
    · simp [k0]
    · simp [k1]
    · simp [k2]
  have kk1 : ∀ k, k < R.1 1 → R.2 2 k = 0 ∨ R.2 2 k = 1 := fun k hk => by
    have : k = 0 ∨ k = 1 ∨ k = 2 := by omega
    rcases this with rfl | rfl | rfl
    · exact Or.inl k0
    · exact Or.inr k1
    · exact Or.inr k2
  refine ⟨⟨⟨by omega, by omega, by omega⟩, ⟨by omega, by omega⟩, ⟨by omega, by omega⟩, ⟨by omega, by omega, by omega⟩, ?_, by omega⟩, ⟨fun e _ _ => e16 e, fun p _ => h41 p⟩, ?_, ⟨?_, ?_⟩, ?_, ⟨fun p hp => by omega, fun p q _ hq => by omega⟩, ⟨fun i hi => by omega, fun i j _ hj => by omega⟩, ?_, ⟨?_, ?_, ?_, ⟨kk, fun k => Or.inl (k5 k), fun k _ => k5 k⟩, fun k hk => by omega⟩, ⟨?_, ⟨fun i hi => by omega, fun i j _ hj => by omega⟩, ?_⟩, fun e D h1 h2 => by omega, fun m a p e _ _ _ hp => by omega, fun e c q h1 h2 => by omega⟩
  · rw [n7, n12]; omega
  · intro e he
    obtain rfl := e0 e he
    obtain ⟨g1, g2, g3, g4, g5⟩ := e16 0
    obtain ⟨y1, y2, y3, y4, y5⟩ := x6
    exact ⟨⟨by rw [x4, e15], by rw [x5, e14], by rw [y1, g1], by rw [y2, g2], by rw [y3, g3], by rw [y4, g4], by rw [y5, g5]⟩, 2, by omega, e14⟩
  · intro e he
    obtain rfl := e0 e he
    refine ⟨0, ⟨d2, e13, fun v hv => ⟨by rw [f2 v hv, rk v hv], by rw [f4, ru v hv], ?_⟩⟩, ⟨by omega, fun v hv => ⟨fun h => ?_, fun _ => ru v hv, fun l hl h => ?_⟩⟩, ⟨fun l hl => ⟨?_, ?_⟩, fun l k hl hk h1 h2 => ?_⟩, fun v hv => ?_, fun v w hv hw h1 h2 => ?_⟩
    · rw [f3 v hv, rk v hv, show 31 * 0 + v = v by omega, (hT v hv).2.2]
      by_cases z : v = 0
      · simp [z, no1]
      · simp [z]
    · rw [rk v hv, if_neg]; rw [show tW 0 = 1 by decide] at h; omega
    · rw [ru v hv, tb_0] at h; exact absurd h (by decide)
    · rw [oo l hl, rk (2 * l) (by omega)]
      by_cases z : l = 0
      · simp [z, no1]
      · rw [if_neg z, if_neg (show ¬ 2 * l = 0 by omega)]
    · rw [oo l hl]
      by_cases z : l = 0
      · right; exact ⟨0, by omega, by simp [z]; rfl⟩
      · left; simp [z]
    · rw [oo l hl, oo k hk] at h1
      rw [oo l hl] at h2
      by_cases z : l = 0
      · by_cases w : k = 0
        · omega
        · simp [z, w] at h1
      · simp [z] at h2
    · rw [rk v hv]
      by_cases z : v = 0
      · right; exact ⟨1, by omega, by simp [z]⟩
      · left; simp [z]
    · rw [rk v hv, rk w hw] at h1
      rw [rk v hv] at h2
      by_cases z : v = 0
      · by_cases y : w = 0
        · omega
        · simp [z, y, no1] at h1
      · simp [z] at h2
  · intro l hl
    rw [n12, c20 l hl, oo l hl]
  · intro m hm
    obtain ⟨g1, g2, g3, g4, g5, g6, g7⟩ := hM m hm
    refine ⟨⟨by rw [c0, g1], by rw [c1, g2], by rw [c3, g4], by rw [u1, g5]; rfl, by rw [u1]; omega, fun k hk => by rw [u1] at hk; omega⟩, ?_⟩
    by_cases z : m = 0
    · subst z
      right
      refine ⟨0, 0, by rw [g1]; rfl, by omega, by omega, by rw [g2]; rfl, by rw [oo 0 (by omega)]; rfl, by rw [c2, e14, if_pos rfl], by rw [g6, if_pos rfl], by rw [g3, rk (2 * 0) (by omega)], by rw [f0 0 0 (by omega), g3, if_pos rfl, if_pos ⟨rfl, rfl⟩], fun i h1 h4 => ?_, fun v hv _ => g7 v hv, fun _ => by rw [u1]; omega⟩
      have hp := pn_31 0 (by omega) i h4
      have hp0 : pn 0 i ≠ 0 := by
        have : i = 1 ∨ i = 2 ∨ i = 3 ∨ i = 4 := by omega
        rcases this with rfl | rfl | rfl | rfl <;> decide
      rw [f0 0 i (by omega), g7 _ hp, rk _ hp]
      refine ⟨?_, Or.inl rfl, fun h => ?_⟩
      · simp [show i ≠ 0 by omega]
      · simp [hp0] at h
    · left
      refine ⟨by rw [g1, if_neg z], by rw [g2, if_neg z], by rw [c2, if_neg z], by rw [g6, if_neg z], by rw [g3, if_neg z], fun i hi => ?_, g7, u1 m⟩
      rw [f0 m i hi, if_neg (fun h => z h.1)]
  · refine ⟨fun k => if k = 1 then 1 else 2, fun e s he hs h1 => ?_, fun e v k he hv hk h1 => ?_, fun p f hp => by omega, fun m k hm hk => by rw [u1] at hk; omega, fun e v p _ _ hp => by omega, fun m k a e v hm hk => by rw [u1] at hk; omega, fun m i j hm _ hj => by rw [u1] at hj; omega⟩
    · obtain rfl := e0 e he
      rw [e14] at hs
      have := (nI_eq (by omega) (by omega)).mp hs
      subst this; rfl
    · obtain rfl := e0 e he
      rw [rk v hv] at hk
      by_cases z : v = 0
      · rw [if_pos z] at hk
        have := (nI_eq (by omega) (by omega)).mp hk
        subst this; exact Or.inl rfl
      · rw [if_neg z] at hk
        exact absurd hk.symm (nI_ne1 (by omega))
  · intro i hi h0 h1
    rcases kk1 i hi with q | q
    · exact absurd q h0
    · exact absurd q h1
  · intro i hi h4
    rcases kk1 i hi with q | q
    · rw [q] at h4; exact absurd h4 (by decide)
    · rw [q] at h4; exact absurd h4 (by decide)
  · rintro i hi ⟨h4, -⟩
    rcases kk1 i hi with q | q
    · rw [q] at h4; exact absurd h4 (by decide)
    · rw [q] at h4; exact absurd h4 (by decide)
  · intro x y z
    constructor
    · rintro ⟨i, hi, -⟩; omega
    · rintro (⟨k, hk, h0, h1, -⟩ | ⟨k, hk, -⟩)
      · rcases kk1 k hk with q | q
        · exact absurd q h0
        · exact absurd q h1
      · omega
  · intro k hk
    rw [c21]
    by_cases z : k = 0
    · subst z
      rw [if_pos rfl]
      exact ⟨fun _ K hK => hK.2.1 0 hk (Or.inl k0), fun _ => rfl⟩
    · rw [if_neg z]
      refine ⟨fun h => absurd h (by decide), fun h => ?_⟩
      have := h (fun j => j = 0) ⟨fun j hj h => absurd (k5 j) h, fun j hj h => ?_, fun j hj => by omega⟩
      · exact absurd this z
      · rcases h with h | ⟨h0, h1, -⟩
        · exact (kk j hj).mp h
        · rcases kk1 j hj with q | q
          · exact absurd q h0
          · exact absurd q h1
