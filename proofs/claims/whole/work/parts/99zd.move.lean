/-! J BEHIND A MEMBER'S MOVE -/
def mvT (S : SC) (A B C D F : Nat → Int32) (u : Nat → Nat) (k : Nat → Nat → Int32) : SC := (fun c => if c = 1 then u else S.1 c, fun c => if c = 0 then A else if c = 1 then B else if c = 2 then C else if c = 3 then D else if c = 16 then F else S.2.1 c, fun c => if c = 0 then k else S.2.2 c)
def mvW (R : SR) (A B C D E F H : Nat → Int32) : SR := (R.1, fun f => if f = 27 then A else if f = 28 then B else if f = 29 then C else if f = 31 then D else if f = 32 then E else if f = 33 then F else if f = 41 then H else R.2 f)
theorem j_mv {S T : SC} {R W : SR} (h : J S R) {m : Nat} (hm : m < 16) (hE : R.2 27 m ≠ nI (R.1 12 - 1))
    (hT1 : ∀ c, c ≠ 1 → T.1 c = S.1 c) (hT2 : ∀ c, c ≠ 0 → c ≠ 1 → c ≠ 2 → c ≠ 3 → c ≠ 16 → T.2.1 c = S.2.1 c) (hT3 : ∀ c, c ≠ 0 → T.2.2 c = S.2.2 c)
    (hW1 : ∀ f, f ≠ 0 → f ≠ 46 → f ≠ 48 → W.1 f = R.1 f) (hW2 : ∀ f, f ≠ 27 → f ≠ 28 → f ≠ 29 → f ≠ 31 → f ≠ 32 → f ≠ 33 → f ≠ 41 → f ≠ 6 → f ≠ 47 → f ≠ 49 → f ≠ 50 → f ≠ 51 → W.2 f = R.2 f)
    (oth : ∀ q, q < 16 → q ≠ m → (T.2.1 0 q = S.2.1 0 q ∧ T.2.1 1 q = S.2.1 1 q ∧ T.2.1 2 q = S.2.1 2 q ∧ T.2.1 3 q = S.2.1 3 q ∧ T.1 1 q = S.1 1 q ∧ T.2.2 0 q = S.2.2 0 q) ∧ W.2 27 q = R.2 27 q ∧ W.2 28 q = R.2 28 q ∧ W.2 29 q = R.2 29 q ∧ W.2 31 q = R.2 31 q ∧ W.2 32 q = R.2 32 q ∧ ∀ v, v < 31 → W.2 33 (31 * q + v) = R.2 33 (31 * q + v))
    (own : (T.2.1 0 m = W.2 27 m ∧ T.2.1 1 m = W.2 28 m ∧ T.2.1 3 m = W.2 30 m ∧ W.2 31 m = 0 ∧ T.1 1 m = 0) ∧ (jMo T W m ∨ ∃ e l, jMi T W m e l))
    (pk : ∀ p, p < R.1 35 → T.2.1 16 p = W.2 41 p ∧ (W.2 41 p = R.2 41 p ∨ (W.2 41 p = 1 ∧ R.2 39 p ≠ -1))) (pz : ∀ p, R.1 35 ≤ p → W.2 41 p = 0)
    (f1 : ∀ a p e, W.2 27 m = nI a → a < R.1 12 → p < R.1 35 → R.2 36 p = nI m → W.2 41 p = 0 → R.2 39 p = nI e → e < R.1 12 → a < e)
    (f2 : ∀ e c, 1 ≤ e → e < R.1 12 → c < 16 → R.2 15 e = nI c → ow R (e - 1) c = nI m → (∃ a, e ≤ a ∧ a < R.1 12 ∧ W.2 27 m = nI a) ∨ (W.2 27 m = -1 ∧ ∀ p f, p < R.1 35 → R.2 36 p = nI m → W.2 41 p = 0 → R.2 39 p = nI f → f < R.1 12 → e ≤ f)) : J T W := by
  obtain ⟨V, eV⟩ : ∃ V, V = mvW R (W.2 27) (W.2 28) (W.2 29) (W.2 31) (W.2 32) (W.2 33) (W.2 41) := ⟨_, rfl⟩
  have aT : T = mvT S (T.2.1 0) (T.2.1 1) (T.2.1 2) (T.2.1 3) (T.2.1 16) (T.1 1) (T.2.2 0) := by
    refine Prod.ext (funext fun c => ?_) (Prod.ext (funext fun c => ?_) (funext fun c => ?_))
    · simp only [mvT]
      by_cases q : c = 1
      · rw [if_pos q, q]
      · rw [if_neg q]; exact hT1 c q
    · simp only [mvT]
      by_cases q0 : c = 0
      · rw [if_pos q0, q0]
      by_cases q1 : c = 1
      · rw [if_neg q0, if_pos q1, q1]
      by_cases q2 : c = 2
      · rw [if_neg q0, if_neg q1, if_pos q2, q2]
      by_cases q3 : c = 3
      · rw [if_neg q0, if_neg q1, if_neg q2, if_pos q3, q3]
      by_cases q4 : c = 16
      · rw [if_neg q0, if_neg q1, if_neg q2, if_neg q3, if_pos q4, q4]
      · rw [if_neg q0, if_neg q1, if_neg q2, if_neg q3, if_neg q4]; exact hT2 c q0 q1 q2 q3 q4
    · simp only [mvT]
      by_cases q : c = 0
      · rw [if_pos q, q]
      · rw [if_neg q]; exact hT3 c q
  have v27 : V.2 27 = W.2 27 := by rw [eV]; rfl
  have v28 : V.2 28 = W.2 28 := by rw [eV]; rfl
  have v29 : V.2 29 = W.2 29 := by rw [eV]; rfl
  have v31 : V.2 31 = W.2 31 := by rw [eV]; rfl
  have v32 : V.2 32 = W.2 32 := by rw [eV]; rfl
  have v33 : V.2 33 = W.2 33 := by rw [eV]; rfl
  have v41 : V.2 41 = W.2 41 := by rw [eV]; rfl
  have v1 : V.1 = R.1 := by rw [eV]; rfl
  have vo : ∀ f, f ≠ 27 → f ≠ 28 → f ≠ 29 → f ≠ 31 → f ≠ 32 → f ≠ 33 → f ≠ 41 → V.2 f = R.2 f := fun f a b c d e g k => by rw [eV]; simp [mvW, a, b, c, d, e, g, k]
  have key : J T V → J T W := fun hJ => J_c hJ (fun f a b c => by rw [v1]; exact hW1 f a b c) (fun f a b c d e => by
    by_cases q : f = 27
    · rw [q, v27]
    by_cases q1 : f = 28
    · rw [q1, v28]
    by_cases q2 : f = 29
    · rw [q2, v29]
    by_cases q3 : f = 31
    · rw [q3, v31]
    by_cases q4 : f = 32
    · rw [q4, v32]
    by_cases q5 : f = 33
    · rw [q5, v33]
    by_cases q6 : f = 41
    · rw [q6, v41]
    rw [vo f q q1 q2 q3 q4 q5 q6]; exact hW2 f q q1 q2 q3 q4 q5 q6 a b c d e)
  apply key
  clear key
  have rkV : ∀ e v, rK V e v = rK R e v := fun e v => by unfold rK; rw [vo 22 (by decide) (by decide) (by decide) (by decide) (by decide) (by decide) (by decide)]
  have rkW : ∀ e v, rK W e v = rK R e v := fun e v => by unfold rK; rw [hW2 22 (by decide) (by decide) (by decide) (by decide) (by decide) (by decide) (by decide) (by decide) (by decide) (by decide) (by decide) (by decide)]
  have ruV : ∀ e v, rU V e v = rU R e v := fun e v => by unfold rU; rw [vo 23 (by decide) (by decide) (by decide) (by decide) (by decide) (by decide) (by decide)]
  have ruW : ∀ e v, rU W e v = rU R e v := fun e v => by unfold rU; rw [hW2 23 (by decide) (by decide) (by decide) (by decide) (by decide) (by decide) (by decide) (by decide) (by decide) (by decide) (by decide) (by decide)]
  have owV : ∀ e v, ow V e v = ow R e v := fun e v => by unfold ow; rw [vo 26 (by decide) (by decide) (by decide) (by decide) (by decide) (by decide) (by decide)]
  have owW : ∀ e v, ow W e v = ow R e v := fun e v => by unfold ow; rw [hW2 26 (by decide) (by decide) (by decide) (by decide) (by decide) (by decide) (by decide) (by decide) (by decide) (by decide) (by decide) (by decide)]
  have w14 : W.2 14 = R.2 14 := hW2 14 (by decide) (by decide) (by decide) (by decide) (by decide) (by decide) (by decide) (by decide) (by decide) (by decide) (by decide) (by decide)
  have w30 : W.2 30 = R.2 30 := hW2 30 (by decide) (by decide) (by decide) (by decide) (by decide) (by decide) (by decide) (by decide) (by decide) (by decide) (by decide) (by decide)
  have w12 : W.1 12 = R.1 12 := hW1 12 (by decide) (by decide) (by decide)
  have w42 : W.1 42 = R.1 42 := hW1 42 (by decide) (by decide) (by decide)
  have u14 : V.2 14 = R.2 14 := vo 14 (by decide) (by decide) (by decide) (by decide) (by decide) (by decide) (by decide)
  have u30 : V.2 30 = R.2 30 := vo 30 (by decide) (by decide) (by decide) (by decide) (by decide) (by decide) (by decide)
  have u34 : V.2 34 = R.2 34 := vo 34 (by decide) (by decide) (by decide) (by decide) (by decide) (by decide) (by decide)
  obtain ⟨hN, ⟨hZ1, hZ2⟩, hX, hTT, hM, ⟨hK, hKo⟩, ⟨hP, hPo⟩, ⟨ρ, l1, l2, l3, l4, l5, l6, l7⟩, hW, hC, hH, hF1, hF2⟩ := h
  have t1 : ∀ q k, q < 16 → k < T.1 1 q → q ≠ m ∧ k < S.1 1 q := fun q k hq hk => by
    by_cases z : q = m
    · subst z; rw [own.1.2.2.2.2] at hk; omega
    · exact ⟨z, by rw [← (oth q hq z).1.2.2.2.2.1]; exact hk⟩
  refine ⟨?_, ⟨?_, fun p hp => ?_⟩, ?_, ?_, ?_, ⟨?_, ?_⟩, ⟨?_, ?_⟩, ?_, ?_, ?_, ?_, ?_, ?_⟩
  · rw [eV, aT]; exact hN
  · rw [eV]; exact hZ1
  · rw [v41]; rw [v1] at hp; exact pz p hp
  · rw [eV, aT]; exact hX
  · rw [eV, aT]; exact hTT
  · intro q hq
    by_cases z : q = m
    · subst z
      obtain ⟨⟨o1, o2, o3, o4, o5⟩, o6⟩ := own
      refine ⟨⟨by rw [o1, v27], by rw [o2, v28], by rw [o3, u30, w30], by rw [v31, o4, o5]; rfl, by rw [o5]; omega, fun k hk => by rw [o5] at hk; exact absurd hk (Nat.not_lt_zero _)⟩, ?_⟩
      rcases o6 with o6 | ⟨e, l, o6⟩
      · left
        unfold jMo at o6 ⊢
        rw [v27, v28, v29, v32, v33]; exact o6
      · right
        refine ⟨e, l, ?_⟩
        unfold jMi at o6 ⊢
        rw [v27, v28, v29, v32, v33, v1, u14]
        rw [w12, w42, w14] at o6
        simp only [rkV, ruV, owV]
        simp only [rkW, ruW, owW] at o6
        exact o6
    · obtain ⟨⟨a0, a1, a2, a3, a4, a5⟩, b1, b2, b3, b4, b5, b6⟩ := oth q hq z
      obtain ⟨⟨g1, g2, g3, g4, g5, g6⟩, g7⟩ := hM q hq
      have e1 : T.2.2 1 = S.2.2 1 := hT3 1 (by decide)
      refine ⟨⟨by rw [a0, v27, b1]; exact g1, by rw [a1, v28, b2]; exact g2, by rw [a3, u30]; exact g3, by rw [v31, b4, a4]; exact g4, by rw [a4]; exact g5, fun k hk => by rw [a4] at hk; rw [e1, u34]; exact g6 k hk⟩, ?_⟩
      rcases g7 with ⟨u1, u2, u3, u4, u5, u6, u7, u8⟩ | ⟨f, l, i1, i2, i3, i4, i5, i6, i7, i8, i9, i10, i11, i12⟩
      · exact Or.inl ⟨by rw [v27, b1]; exact u1, by rw [v28, b2]; exact u2, by rw [a2]; exact u3, by rw [v32, b5]; exact u4, by rw [v29, b3]; exact u5, fun i hi => by rw [a5]; exact u6 i hi, fun v hv => by rw [v33, b6 v hv]; exact u7 v hv, by rw [a4]; exact u8⟩
      · right
        refine ⟨f, l, by rw [v27, b1]; exact i1, by rw [v1]; exact i2, i3, by rw [v28, b2]; exact i4, by rw [owV]; exact i5, by rw [a2, u14]; exact i6, by rw [v32, b5]; exact i7, by rw [v29, b3, rkV]; exact i8, by rw [a5, v29, b3]; exact i9, fun i h1 h4 => ?_, fun v hv hn => by rw [v33, b6 v hv]; exact i11 v hv hn, fun z => by rw [v1] at z ⊢; rw [a4]; exact i12 z⟩
        have h31 := pn_31 l i3 i h4
        rw [a5, v33, b6 _ h31, rkV, ruV]
        exact i10 i h1 h4
  · intro p hp
    rw [v1] at hp
    obtain ⟨⟨k1, k2, k3, k4, k5⟩, k6, k7, k8, k9⟩ := hK p hp
    obtain ⟨p1, p2⟩ := pk p hp
    have x11 : T.2.1 11 = S.2.1 11 := hT2 11 (by decide) (by decide) (by decide) (by decide) (by decide)
    have x12 : T.2.1 12 = S.2.1 12 := hT2 12 (by decide) (by decide) (by decide) (by decide) (by decide)
    have x13 : T.2.1 13 = S.2.1 13 := hT2 13 (by decide) (by decide) (by decide) (by decide) (by decide)
    have x14 : T.2.1 14 = S.2.1 14 := hT2 14 (by decide) (by decide) (by decide) (by decide) (by decide)
    have x15 : T.2.1 15 = S.2.1 15 := hT2 15 (by decide) (by decide) (by decide) (by decide) (by decide)
    have y : ∀ f, 34 ≤ f → f ≤ 40 → V.2 f = R.2 f := fun f a b => vo f (by omega) (by omega) (by omega) (by omega) (by omega) (by omega) (by omega)
    have y19 : V.2 19 = R.2 19 := vo 19 (by decide) (by decide) (by decide) (by decide) (by decide) (by decide) (by decide)
    rw [y 36 (by omega) (by omega), y 37 (by omega) (by omega), y 38 (by omega) (by omega), y 39 (by omega) (by omega), y 40 (by omega) (by omega), v41, v1, y19]
    simp only [rkV, owV]
    refine ⟨⟨by rw [x11]; exact k1, by rw [x12]; exact k2, by rw [x13]; exact k3, by rw [x14]; exact k4, p1⟩, k6, k7, ?_, ?_⟩
    · rcases p2 with p2 | p2
      · rw [p2]; exact k8
      · exact Or.inr p2.1
    · rcases k9 with ⟨k9, k10⟩ | ⟨e, l, k9⟩
      · rcases p2 with p2 | p2
        · rw [p2]; exact Or.inl ⟨k9, k10⟩
        · exact absurd k9 p2.2
      · rw [x15]; exact Or.inr ⟨e, l, k9⟩
  · rw [eV]; exact hKo
  · intro i hi
    rw [v1] at hi
    obtain ⟨q1, ⟨q, q2, q3, q4, q5⟩, q6, q7, q8, q9, q10⟩ := hP i hi
    have hqm : q ≠ m := fun z => by subst z; exact hE q4
    obtain ⟨⟨a0, a1, a2, a3, a4, a5⟩, b1, b2, b3, b4, b5, b6⟩ := oth q q2 hqm
    have x17 : T.2.1 17 = S.2.1 17 := hT2 17 (by decide) (by decide) (by decide) (by decide) (by decide)
    have x18 : T.2.1 18 = S.2.1 18 := hT2 18 (by decide) (by decide) (by decide) (by decide) (by decide)
    have x19 : T.2.1 19 = S.2.1 19 := hT2 19 (by decide) (by decide) (by decide) (by decide) (by decide)
    have y : ∀ f, 42 ≤ f → f ≤ 45 → V.2 f = R.2 f := fun f a b => vo f (by omega) (by omega) (by omega) (by omega) (by omega) (by omega) (by omega)
    rw [y 43 (by omega) (by omega), y 44 (by omega) (by omega), y 45 (by omega) (by omega), v1, u34, v27, v28, x17, x18, x19]
    refine ⟨q1, ⟨q, q2, q3, by rw [b1]; exact q4, by rw [a4]; exact q5⟩, q6, q7, fun w => ?_, q9, q10⟩
    have := q8 w
    rw [q3, nI_clamp (by omega)] at this ⊢
    rw [b2]; exact this
  · rw [eV]; exact hPo
  · refine ⟨ρ, ?_, ?_, ?_, fun q k hq hk => ?_, ?_, fun q k a e v hq hk ha ha1 he hv => ?_, fun q i j hq hij hj => ?_⟩
    · rw [eV]; exact l1
    · rw [eV]; exact l2
    · rw [eV]; exact l3
    · obtain ⟨h1, h2⟩ := t1 q k hq hk
      rw [v1, u34]; exact l4 q k hq h2
    · rw [eV]; exact l5
    · obtain ⟨h1, h2⟩ := t1 q k hq hk
      rw [rkV, u34]
      rw [v27, (oth q hq h1).2.1] at ha
      rw [v1] at ha1
      exact l6 q k a e v hq h2 ha ha1 he hv
    · obtain ⟨h1, h2⟩ := t1 q j hq hj
      rw [u34]; exact l7 q i j hq hij h2
  · rw [eV]; exact hW
  · rw [eV, aT]; exact hC
  · rw [eV]; exact hH
  · intro q a p e hq ha ha1 hp h36 h41 h39 he
    rw [v27] at ha
    rw [v1] at ha1 hp he
    rw [vo 36 (by decide) (by decide) (by decide) (by decide) (by decide) (by decide) (by decide)] at h36
    rw [vo 39 (by decide) (by decide) (by decide) (by decide) (by decide) (by decide) (by decide)] at h39
    rw [v41] at h41
    by_cases z : q = m
    · subst z; exact f1 a p e ha ha1 hp h36 h41 h39 he
    · rw [(oth q hq z).2.1] at ha
      refine hF1 q a p e hq ha ha1 hp h36 ?_ h39 he
      rcases (pk p hp).2 with w | w
      · rw [← w]; exact h41
      · rw [w.1] at h41; exact absurd h41 (by decide)
  · intro e c q he he1 hc hq h15 ho
    rw [v1] at he1
    rw [vo 15 (by decide) (by decide) (by decide) (by decide) (by decide) (by decide) (by decide)] at h15
    rw [owV] at ho
    rw [v27, v1, v41, vo 36 (by decide) (by decide) (by decide) (by decide) (by decide) (by decide) (by decide), vo 39 (by decide) (by decide) (by decide) (by decide) (by decide) (by decide) (by decide)]
    by_cases z : q = m
    · subst z; exact f2 e c he he1 hc h15 ho
    · rw [(oth q hq z).2.1]
      refine (hF2 e c q he he1 hc hq h15 ho).imp id (fun ⟨w1, w2⟩ => ⟨w1, fun p f hp h36 h41 h39 hf => w2 p f hp h36 ?_ h39 hf⟩)
      rcases (pk p hp).2 with w | w
      · rw [← w]; exact h41
      · rw [w.1] at h41; exact absurd h41 (by decide)
/-- one who was removed hears of it -/
theorem j_lv {S : SC} {R : SR} (h : J S R) {m e : Nat} (hm : m < 16) (h27 : R.2 27 m = nI e) (he : e + 1 < R.1 12) : J (lvS S m) (lvR (ri R 0 0) m) := by
  have h0 := h
  obtain ⟨⟨⟨-, -, n3⟩, -⟩, ⟨-, hZ2⟩, -, -, hM, ⟨hK, -⟩, -, -, -, -, -, hF1, hF2⟩ := h
  obtain ⟨⟨g1, g2, g3, -⟩, -⟩ := hM m hm
  have one : (lvR (ri R 0 0) m).2 27 m = -1 ∧ (lvR (ri R 0 0) m).2 28 m = -1 ∧ (lvR (ri R 0 0) m).2 29 m = -1 ∧ (lvR (ri R 0 0) m).2 31 m = 0 ∧ (lvR (ri R 0 0) m).2 32 m = 0 ∧ (∀ v, v < 31 → (lvR (ri R 0 0) m).2 33 (31 * m + v) = -1) := by
    refine ⟨by simp [lvR, lvR0, ra, upd], by simp [lvR, lvR0, ra, upd], by simp [lvR, lvR0, ra, upd], by simp [lvR, lvR0, ra, upd], by simp [lvR, lvR0, ra, upd], fun v hv => ?_⟩
    unfold lvR; rw [ra_at]; simp only [nkF]; rw [if_pos (by omega)]
  obtain ⟨o1, o2, o3, o4, o5, o6⟩ := one
  have c41 : (lvR (ri R 0 0) m).2 41 = R.2 41 := by simp [lvR, lvR0, ra, ri]
  refine j_mv h0 hm (fun w => ?_) (fun c hc => ?_) (fun c a0 a1 a2 a3 _ => ?_) (fun c hc => ?_) (fun f hf _ _ => ?_) (fun f a b c d e g _ _ _ _ _ _ => ?_) (fun q hq z => ⟨⟨?_, ?_, ?_, ?_, ?_, ?_⟩, ?_, ?_, ?_, ?_, ?_, fun v hv => ?_⟩) ⟨⟨?_, ?_, ?_, o4, ?_⟩, Or.inl ⟨o1, o2, ?_, o5, o3, fun i hi => ?_, o6, ?_⟩⟩ (fun p hp => ⟨?_, Or.inl (by rw [c41])⟩) (fun p hp => by rw [c41]; exact hZ2 p hp) (fun a p f ha => ?_) (fun f c hf hf1 hc h15 ho => Or.inr ⟨o1, fun p f9 hp h36 h41 h39 hf9 => ?_⟩)
  · rw [h27] at w
    have := (nI_eq (by omega) (by omega)).mp w; omega
  · simp [lvS, mbS, st2, stN, st1, hc]
  · simp [lvS, mbS, st2, stN, st1, a0, a1, a2, a3]
  · simp [lvS, mbS, st2, stN, st1, hc]
  · simp [lvR, lvR0, ra, ri, hf]
  · simp [lvR, lvR0, ra, ri, a, b, c, d, e, g]
  · simp [lvS, mbS, st2, stN, st1, z]
  · simp [lvS, mbS, st2, stN, st1, z]
  · simp [lvS, mbS, st2, stN, st1, z]
  · simp [lvS, mbS, st2, stN, st1, z]
  · simp [lvS, mbS, st2, stN, st1, z]
  · simp [lvS, mbS, st2, stN, st1, z]
  · simp [lvR, lvR0, ra, ri, upd, z]
  · simp [lvR, lvR0, ra, ri, upd, z]
  · simp [lvR, lvR0, ra, ri, upd, z]
  · simp [lvR, lvR0, ra, ri, upd, z]
  · simp [lvR, lvR0, ra, ri, upd, z]
  · unfold lvR; rw [ra_at]; simp only [nkF]; rw [if_neg (by omega)]; rfl
  · rw [o1]; simp [lvS, mbS, st2, stN, st1]
  · rw [o2]; simp [lvS, mbS, st2, stN, st1]
  · rw [show (lvR (ri R 0 0) m).2 30 = R.2 30 by simp [lvR, lvR0, ra, ri], ← g3]; simp [lvS, mbS, st2, stN, st1]
  · simp [lvS, mbS, st2, stN, st1]
  · simp [lvS, mbS, st2, stN, st1]
  · simp [lvS, mbS, st2, stN, st1, fl, hi]
  · simp [lvS, mbS, st2, stN, st1]
  · rw [c41, ← (hK p hp).1.2.2.2.2]; simp [lvS, mbS, st2, stN, st1]
  · intro ha1
    rw [o1] at ha; exact absurd ha.symm (nI_ne1 (by omega))
  · rw [c41] at h41
    rcases hF2 f c m hf hf1 hc hm h15 ho with ⟨a, w1, w2, w3⟩ | ⟨w1, w2⟩
    · have := hF1 m a p f9 hm w3 w2 hp h36 h41 h39 hf9; omega
    · rw [h27] at w1; exact absurd w1 (nI_ne1 (by omega))
