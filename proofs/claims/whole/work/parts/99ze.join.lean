/-! J BEHIND A JOIN -/
theorem tlQ_c (T : SR) (m e a D : Nat) (ha : a < 16) (hD : D ≤ 4) (hb : ∀ v, v < 32 → tb (T.2 16 e) v = true → v < tW D) : (tlQ T m e a D (lowc D (T.2 16 e) a)).1 = T.1 ∧ (∀ f, f ≠ 33 → (tlQ T m e a D (lowc D (T.2 16 e) a)).2 f = T.2 f) ∧ (∀ i, 1 ≤ i → i ≤ 4 → (tlQ T m e a D (lowc D (T.2 16 e) a)).2 33 (31 * m + pn a i) = if tb (T.2 16 e) (pn a i) = true then rK T e (pn a i) else T.2 33 (31 * m + pn a i)) ∧ ∀ j, (∀ i, 1 ≤ i → i ≤ 4 → j ≠ 31 * m + pn a i) → (tlQ T m e a D (lowc D (T.2 16 e) a)).2 33 j = T.2 33 j := by
  cases hw : lowc D (T.2 16 e) a with
  | none =>
    refine ⟨rfl, fun _ _ => rfl, fun i h1 h4 => ?_, fun _ _ => rfl⟩
    have hn := lowc_nn ha hD hw
    have : tb (T.2 16 e) (pn a i) = false := by
      by_cases hi : i ≤ D
      · have := hn (i - 1) (by omega)
        rwa [Nat.sub_add_cancel h1] at this
      · exact hi_bit ha hD hb (by omega) h4
    show T.2 33 _ = _
    rw [this]; rfl
  | some h =>
    obtain ⟨-, hm⟩ := lowc_mn ha hD hw
    have hlt := lowc_lt hw
    obtain ⟨t1, t2⟩ := tl_c T m e a (h + 1) ha (D - h) (by omega)
    have t3 := tlR_f T m e a (h + 1) (D - h)
    refine ⟨t3.1, t3.2, fun i h1 h4 => ?_, fun j hj => ?_⟩
    · show (tlR T m e a (h + 1) (D - h)).2 33 _ = _
      rw [t1 i h4]
      by_cases hc : tb (T.2 16 e) (pn a i) = true
      · have hle : h + 1 ≤ i := by
          by_cases q : h + 1 ≤ i
          · exact q
          · have := hm (i - 1) (by omega)
            rw [Nat.sub_add_cancel h1, hc] at this; cases this
        have hle2 : i ≤ D := by
          by_cases q : i ≤ D
          · exact q
          · have := hi_bit (a := a) (i := i) ha hD hb (by omega) h4
            rw [hc] at this; cases this
        rw [if_pos ⟨by omega, hc⟩, if_pos hc]
      · rw [if_neg (fun q => hc q.2), if_neg hc]
    · show (tlR T m e a (h + 1) (D - h)).2 33 _ = _
      by_cases z : j = 31 * m + pn a 0
      · subst z
        rw [t1 0 (by omega), if_neg (fun q => by omega)]
      · refine t2 j (fun i hi => ?_)
        by_cases i0 : i = 0
        · rw [i0]; exact z
        · exact hj i (by omega) hi
theorem ew_np {S : SC} {R : SR} (h : jK S R) (m : Nat) : ∀ i, i ≤ R.1 35 → ew S m i = np R m i := by
  intro i
  induction i with
  | zero => exact fun _ => rfl
  | succ i ih =>
    intro hi
    have h1 := ih (by omega)
    obtain ⟨k1, k2, k3, k4, k5⟩ := (h.1 i (by omega)).1
    have hb : ∀ p, np R m i = some p → S.2.1 14 p = R.2 39 p := fun p hp => (h.1 p (by have := np_lt R m i p hp; omega)).1.2.2.2.1
    have iff : ewQ S m i (ew S m i) ↔ npQ R m i (np R m i) := by
      unfold ewQ npQ
      rw [h1, k1, k4, k5]
      cases hq : np R m i with
      | none => exact ⟨fun ⟨a, b, c, _⟩ => ⟨a, c, b, Or.inl rfl⟩, fun ⟨a, b, c, _⟩ => ⟨a, c, b, Or.inl rfl⟩⟩
      | some p =>
        have := hb p hq
        simp only [Option.getD_some, reduceCtorEq, false_or]
        rw [this]
        exact ⟨fun ⟨a, b, c, d⟩ => ⟨a, c, b, d⟩, fun ⟨a, b, c, d⟩ => ⟨a, c, b, d⟩⟩
    show (if ewQ S m i (ew S m i) then some i else ew S m i) = if npQ R m i (np R m i) then some i else np R m i
    by_cases q : npQ R m i (np R m i)
    · rw [if_pos q, if_pos (iff.mpr q)]
    · rw [if_neg q, if_neg (fun w => q (iff.mp w)), h1]
/-- the package is one that waits, and none waits from an earlier epoch -/
theorem np_min {S : SC} {R : SR} (hE : R.1 12 ≤ 60) (h : jK S R) (m : Nat) : ∀ i, i ≤ R.1 35 → (∀ p, np R m i = some p → p < i ∧ R.2 36 p = nI m ∧ R.2 39 p ≠ -1 ∧ R.2 41 p = 0) ∧ (np R m i = none → ∀ q, q < i → R.2 36 q = nI m → R.2 41 q = 0 → R.2 39 q = -1) ∧ ∀ p q e f, np R m i = some p → q < i → R.2 36 q = nI m → R.2 41 q = 0 → R.2 39 q = nI f → R.2 39 p = nI e → e < R.1 12 → f < R.1 12 → e ≤ f := by
  intro i
  induction i with
  | zero => exact fun _ => ⟨fun p hp => (by cases hp), fun _ q hq => absurd hq (Nat.not_lt_zero _), fun p q e f hp => (by cases hp)⟩
  | succ i ih =>
    intro hi
    obtain ⟨i1, i2, i3⟩ := ih (by omega)
    have en : np R m (i + 1) = if npQ R m i (np R m i) then some i else np R m i := rfl
    have ep : ∀ p, p < R.1 35 → R.2 39 p ≠ -1 → ∃ e, e < R.1 12 ∧ R.2 39 p = nI e := fun p hp h9 => by
      rcases (h.1 p hp).2.2.2.2 with w | ⟨e, l, -, w1, w2, -⟩
      · exact absurd w.1 h9
      · exact ⟨e, w1, w2⟩
    by_cases q : npQ R m i (np R m i)
    · rw [en, if_pos q]
      obtain ⟨q1, q2, q3, q4⟩ := q
      refine ⟨fun p hp => (by cases hp; exact ⟨by omega, q1, q2, q3⟩), fun w => (by cases w), fun p r e f hp hr h36 h41 h39 h39p he hf => ?_⟩
      cases hp
      by_cases z : r = i
      · subst z
        rw [h39] at h39p
        have := (nI_eq (by omega) (by omega)).mp h39p; omega
      · cases hn : np R m i with
        | none =>
          have := i2 hn r (by omega) h36 h41
          rw [h39] at this; exact absurd this (nI_ne1 (by omega))
        | some p0 =>
          rw [hn] at q4
          obtain ⟨w1, w2, w3, w4⟩ := i1 p0 hn
          obtain ⟨e0, y1, y2⟩ := ep p0 (by omega) w3
          have h1 := i3 p0 r e0 f hn (by omega) h36 h41 h39 y2 y1 hf
          rcases q4 with q4 | q4
          · cases q4
          · simp only [Option.getD_some] at q4
            rw [h39p, y2] at q4
            have := (nI_ltI (by omega) (by omega)).mp q4; omega
    · rw [en, if_neg q]
      refine ⟨fun p hp => by obtain ⟨a, b⟩ := i1 p hp; exact ⟨by omega, b⟩, fun hn r hr h36 h41 => ?_, fun p r e f hp hr h36 h41 h39 h39p he hf => ?_⟩
      · by_cases z : r = i
        · subst z
          by_cases w : R.2 39 r = -1
          · exact w
          · exact absurd ⟨h36, w, h41, Or.inl hn⟩ q
        · exact i2 hn r (by omega) h36 h41
      · by_cases z : r = i
        · subst z
          by_cases w : e ≤ f
          · exact w
          · refine absurd ⟨h36, ?_, h41, Or.inr ?_⟩ q
            · rw [h39]; exact nI_ne1 (by omega)
            · rw [hp]
              simp only [Option.getD_some]
              rw [h39, h39p]; exact (nI_ltI (by omega) (by omega)).mpr (by omega)
        · exact i3 p r e f hp (by omega) h36 h41 h39 h39p he hf
theorem j_jn {S : SC} {R : SR} (h : J S R) {m p : Nat} (hm : m < 16) (h27 : R.2 27 m = -1) (hnp : np R m (R.1 35) = some p) : ∃ e a D, (p < R.1 35 ∧ e < R.1 12 ∧ a < 16 ∧ a < 2 ^ D ∧ D ≤ 4 ∧ R.2 13 e = nI D ∧ S.1 2 e = D ∧ R.2 39 p = nI e ∧ R.2 40 p = nI a ∧ S.2.1 14 p = nI e ∧ S.2.1 15 p = nI a ∧ ew S m (sP S) = some p ∧ S.2.1 0 m = -1) ∧ (jnR (ri R 0 0) m p e a D).2 27 m = nI e ∧ J (jnS S m p e a) (jnR (ri R 0 0) m p e a D) := by
  have h0 := h
  obtain ⟨⟨⟨n1, n2, n3⟩, ⟨p1, p2⟩, -⟩, ⟨-, hZ2⟩, hX, ⟨hT, -⟩, hM, hK, -, -, -, -, hH, hF1, hF2⟩ := h
  have hmin := np_min n3 hK m (R.1 35) (Nat.le_refl _)
  obtain ⟨hp, h36, h39, h41⟩ := hmin.1 p hnp
  obtain ⟨⟨k1, k2, k3, k4, k5⟩, -, ⟨f0, f01, f02, f03⟩, -, k9⟩ := hK.1 p hp
  rcases k9 with k9 | ⟨e, a, e1, he, h39e, ha, h40, h15, how, hk38, had⟩
  · exact absurd k9.1 h39
  obtain ⟨D, hTE, hTI, hOI, hkk, hinj⟩ := hT e he
  obtain ⟨hD2, hD13, hrow⟩ := hTE
  have hD4 := hTI.1
  obtain ⟨c, -, -, -, -, -, hadd, h21, hcn⟩ := hH e D e1 he hD13 hD4
  have hcw : ∀ v, v < 32 → tb (R.2 16 e) v = true → v < tW D := fun v hv hb => (hcn v hv hb).1
  have hlk : rK R e (2 * a) ≠ -1 := by rw [hk38, f03]; have := (hK.1 p hp).2.2.1; exact nI_ne1 (by
    have : R.1 1 ≤ 2600 := by
      obtain ⟨⟨⟨-, -, n3⟩, ⟨-, p2⟩, ⟨-, a4⟩, ⟨-, -, a7⟩, -⟩, -⟩ := h0
      omega
    omega)
  have haD : a < 2 ^ D := by
    by_cases w : tW D ≤ 2 * a
    · exact absurd ((hTI.2 (2 * a) (by omega)).1 w) hlk
    · unfold tW at w
      have := p2pos (D + 1)
      rw [Nat.pow_succ] at w; omega
  obtain ⟨⟨g1, g2, g3, g4, g5, g6⟩, g7⟩ := hM m hm
  have hif : (if R.2 21 e = 0 then none else lowc D (R.2 16 e) a) = lowc D (R.2 16 e) a := by
    by_cases w : R.2 21 e = 0
    · rw [if_pos w, h21 w]
      cases hw : lowc D (0 : Int32) a with
      | none => rfl
      | some h9 => have := (lowc_mn ha hD4 hw).1; rw [tb_0] at this; cases this
    · rw [if_neg w]
  obtain ⟨W, eW⟩ : ∃ W, W = jnR (ri R 0 0) m p e a D := ⟨_, rfl⟩
  have eW2 : W = tlQ (jn0 (ri R 0 0) m p e a) m e a D (lowc D ((jn0 (ri R 0 0) m p e a).2 16 e) a) := by
    rw [eW]; unfold jnR
    rw [show (jn0 (ri R 0 0) m p e a).2 16 = R.2 16 by simp [jn0, lvR, lvR0, ra, ri], ← hif]; rfl
  have c16 : (jn0 (ri R 0 0) m p e a).2 16 = R.2 16 := by simp [jn0, lvR, lvR0, ra, ri]
  obtain ⟨t1, t2, t3, t4⟩ := tlQ_c (jn0 (ri R 0 0) m p e a) m e a D ha hD4 (by rw [c16]; exact hcw)
  rw [← eW2] at t1 t2 t3 t4
  rw [c16] at t3
  have rk0 : ∀ v, rK (jn0 (ri R 0 0) m p e a) e v = rK R e v := fun v => by unfold rK; rw [show (jn0 (ri R 0 0) m p e a).2 22 = R.2 22 by simp [jn0, lvR, lvR0, ra, ri]]
  have c33 : ∀ q v, v < 31 → (jn0 (ri R 0 0) m p e a).2 33 (31 * q + v) = if q = m then -1 else R.2 33 (31 * q + v) := fun q v hv => by
    rw [show (jn0 (ri R 0 0) m p e a).2 33 = nkF m 31 (R.2 33) by simp [jn0, lvR, ra, ri]]
    simp only [nkF]
    by_cases z : q = m
    · rw [if_pos (by omega), if_pos z]
    · rw [if_neg (by omega), if_neg z]
  have w33 : ∀ i, 1 ≤ i → i ≤ 4 → W.2 33 (31 * m + pn a i) = if tb (R.2 16 e) (pn a i) = true then rK R e (pn a i) else -1 := fun i h1 h4 => by
    rw [t3 i h1 h4, rk0, c33 m _ (pn_31 a ha i h4), if_pos rfl]
  have w33o : ∀ q v, q < 16 → v < 31 → (q ≠ m ∨ ∀ i, 1 ≤ i → i ≤ 4 → v ≠ pn a i) → W.2 33 (31 * q + v) = if q = m then -1 else R.2 33 (31 * q + v) := fun q v hq hv hn => by
    rw [t4 _ (fun i h1 h4 => ?_), c33 q v hv]
    have := pn_31 a ha i h4
    rcases hn with hn | hn
    · omega
    · have := hn i h1 h4; omega
  have w27 : W.2 27 = upd (upd (R.2 27) m (-1)) m (nI e) := by rw [t2 27 (by decide)]; simp [jn0, lvR, lvR0, ra, ri]
  have w28 : W.2 28 = upd (upd (R.2 28) m (-1)) m (nI a) := by rw [t2 28 (by decide)]; simp [jn0, lvR, lvR0, ra, ri]
  have w29 : W.2 29 = upd (upd (R.2 29) m (-1)) m (R.2 38 p) := by rw [t2 29 (by decide)]; simp [jn0, lvR, lvR0, ra, ri]
  have w32 : W.2 32 = upd (upd (R.2 32) m 0) m 1 := by rw [t2 32 (by decide)]; simp [jn0, lvR, lvR0, ra, ri]
  have w31 : W.2 31 = upd (R.2 31) m 0 := by rw [t2 31 (by decide)]; simp [jn0, lvR, lvR0, ra, ri]
  have w41 : W.2 41 = upd (R.2 41) p 1 := by rw [t2 41 (by decide)]; simp [jn0, lvR, lvR0, ra, ri]
  have w14 : W.2 14 = R.2 14 := by rw [t2 14 (by decide)]; simp [jn0, lvR, lvR0, ra, ri]
  have w30 : W.2 30 = R.2 30 := by rw [t2 30 (by decide)]; simp [jn0, lvR, lvR0, ra, ri]
  have wK : ∀ v, rK W e v = rK R e v := fun v => by rw [← rk0]; unfold rK; rw [t2 22 (by decide)]
  have wU : ∀ v, rU W e v = rU R e v := fun v => by unfold rU; rw [t2 23 (by decide), show (jn0 (ri R 0 0) m p e a).2 23 = R.2 23 by simp [jn0, lvR, lvR0, ra, ri]]
  have wO : ow W e a = ow R e a := by unfold ow; rw [t2 26 (by decide), show (jn0 (ri R 0 0) m p e a).2 26 = R.2 26 by simp [jn0, lvR, lvR0, ra, ri]]
  have w1 : ∀ f, f ≠ 0 → W.1 f = R.1 f := fun f hf => by rw [t1]; simp [jn0, lvR, lvR0, ra, ri, hf]
  have tkS : ∀ i, i ≤ 4 → tk D (S.2.2 2 e) (pn a i) = rK R e (pn a i) := fun i hi => by
    unfold tk
    by_cases w : pn a i < tW D
    · rw [if_pos w]; exact (hrow _ (pn_31 a ha i hi)).1
    · rw [if_neg w]; exact ((hTI.2 _ (pn_31 a ha i hi)).1 (by omega)).symm
  have hx := (hX e he).1
  refine ⟨e, a, D, ⟨hp, he, ha, haD, hD4, hD13, hD2, h39e, h40, by rw [k4]; exact h39e, h15, by rw [p1, ew_np hK m _ (Nat.le_refl _)]; exact hnp, by rw [g1]; exact h27⟩, ?_, ?_⟩
  · rw [← eW, w27]; simp [upd]
  rw [← eW]
  -- the class's side
  have s0 : (jnS S m p e a).2.2 0 m = lrq D (S.2.2 2 e) (R.2 16 e) a (lowc D (R.2 16 e) a) (upd (fl 5 (-1) (S.2.2 0 m)) 0 (S.2.2 2 e (2 * a))) := by
    rw [← hD2, ← hx.2.2.1]; simp [jnS, mbS, st2, stN, st1]
  refine j_mv h0 hm (fun w => ?_) (fun c hc => ?_) (fun c a0 a1 a2 a3 a4 => ?_) (fun c hc => ?_) (fun f hf _ _ => w1 f hf) (fun f a b c d e g k _ _ _ _ _ => ?_) (fun q hq z => ⟨⟨?_, ?_, ?_, ?_, ?_, ?_⟩, ?_, ?_, ?_, ?_, ?_, fun v hv => ?_⟩) ⟨⟨?_, ?_, ?_, ?_, ?_⟩, Or.inr ⟨e, a, ?_, ?_, ha, ?_, ?_, ?_, ?_, ?_, ?_, fun i h1 h4 => ⟨?_, ?_, fun hk9 => ?_⟩, fun v hv hn => ?_, fun _ => ?_⟩⟩ (fun q hq => ⟨?_, ?_⟩) (fun q hq => ?_) (fun a9 q f ha9 ha1 hq q36 q41 q39 hf => ?_) (fun f c hf hf1 hc h15 ho => Or.inl ⟨e, ?_, he, ?_⟩)
  · rw [h27] at w; exact absurd w.symm (nI_ne1 (by omega))
  · simp [jnS, mbS, st2, stN, st1, hc]
  · simp [jnS, mbS, st2, stN, st1, a0, a1, a2, a3, a4]
  · simp [jnS, mbS, st2, stN, st1, hc]
  · rw [t2 f g]; simp [jn0, lvR, lvR0, ra, ri, a, b, c, d, e, g, k]
  · simp [jnS, mbS, st2, stN, st1, z]
  · simp [jnS, mbS, st2, stN, st1, z]
  · simp [jnS, mbS, st2, stN, st1, z]
  · simp [jnS, mbS, st2, stN, st1, z]
  · simp [jnS, mbS, st2, stN, st1, z]
  · simp [jnS, mbS, st2, stN, st1, z]
  · rw [w27]; simp [upd, z]
  · rw [w28]; simp [upd, z]
  · rw [w29]; simp [upd, z]
  · rw [w31]; simp [upd, z]
  · rw [w32]; simp [upd, z]
  · rw [w33o q v hq hv (Or.inl z), if_neg z]
  · rw [w27]; simp [upd, jnS, mbS, st2, stN, st1]
  · rw [w28]; simp [upd, jnS, mbS, st2, stN, st1]
  · rw [w30, ← g3]; simp [jnS, mbS, st2, stN, st1]
  · rw [w31]; simp [upd]
  · simp [jnS, mbS, st2, stN, st1]
  · rw [w27]; simp [upd]
  · rw [w1 12 (by decide)]; exact he
  · rw [w28]; simp [upd]
  · rw [wO, how, h36]
  · rw [w14, ← hx.2.1]; simp [jnS, mbS, st2, stN, st1]
  · rw [w32]; simp [upd]
  · rw [w29, wK, hk38]; simp [upd]
  · rw [s0, lrq_0, w29]; simp [upd]; rw [(hrow _ (by omega)).1, hk38]
  · rw [s0, lrq_c ha hD4 hcw h1 h4, w33 i h1 h4, tkS i h4]
    by_cases w : tb (R.2 16 e) (pn a i) = true
    · rw [if_pos w, if_pos w]
    · rw [if_neg w, if_neg w]; simp [upd, fl, show i ≠ 0 by omega, show i < 5 by omega]
  · rw [w33 i h1 h4, wK]
    by_cases w : tb (R.2 16 e) (pn a i) = true
    · rw [if_pos w]; exact Or.inr rfl
    · rw [if_neg w]; exact Or.inl rfl
  · rw [wK] at hk9
    rw [w33 i h1 h4, wK, wU]
    rcases (hadd a (by omega) had).2 i h1 h4 hk9 with w | w
    · rw [if_pos w]; exact Or.inl rfl
    · exact Or.inr w
  · rw [w33o m v hm hv (Or.inr hn), if_pos rfl]
  · simp [jnS, mbS, st2, stN, st1]
  · rw [w41]
    by_cases z : q = p
    · subst z; simp [jnS, mbS, st2, stN, st1, upd]
    · simp [jnS, mbS, st2, stN, st1, upd, z]; exact (hK.1 q hq).1.2.2.2.2
  · rw [w41]
    by_cases z : q = p
    · subst z; right; simp [upd]; exact h39
    · left; simp [upd, z]
  · rw [w41]
    simp [upd, show q ≠ p by omega]; exact hZ2 q hq
  · rw [w27] at ha9
    simp only [upd, if_true] at ha9
    have := (nI_eq (by omega) (by omega)).mp ha9
    subst this
    rw [w41] at q41
    have hqp : q ≠ p := fun z => by subst z; simp [upd] at q41
    simp only [upd, if_neg hqp] at q41
    have hle := hmin.2.2 p q e f hnp hq q36 q41 q39 h39e he hf
    by_cases w : e = f
    · exfalso
      subst w
      rcases (hK.1 q hq).2.2.2.2 with k9 | ⟨e9, l9, -, -, r1, r2, -, -, r3, r4, -⟩
      · rw [k9.1] at q39; exact absurd q39.symm (nI_ne1 (by omega))
      · rw [q39] at r1
        have hn2 : R.1 12 ≤ 60 := n3
        rcases (hK.1 q hq).2.2.2.2 with k9 | ⟨e8, l8, -, u0, u1, u2, -, -, u3, u4, -⟩
        · rw [k9.1] at q39; exact absurd q39.symm (nI_ne1 (by omega))
        rw [q39] at u1
        have := (nI_eq (by omega) (by omega)).mp u1
        subst this
        have hl : l8 = a := hOI.2 l8 a u2 ha (by rw [u3, how, q36, h36]) (by rw [u3, q36]; exact nI_ne1 (by omega))
        subst hl
        rw [hk38] at u4
        have hNN : R.1 1 ≤ 2600 := by
          obtain ⟨⟨⟨-, -, n3⟩, ⟨-, p2⟩, ⟨-, a4⟩, ⟨-, -, a7⟩, -⟩, -⟩ := h0
          omega
        have bad : ∀ i j, i < j → j < R.1 35 → R.2 38 i ≠ R.2 38 j := fun i j hij hj hw => by
          obtain ⟨x1, x2, y1, y2, y3, y4⟩ := hK.2 i j hij hj
          obtain ⟨x3, y5, y6, y7⟩ := (hK.1 j hj).2.2.1
          rw [y1, y7] at hw
          rw [y6] at y2
          have z1 := (nI_eq (by omega) (by omega)).mp hw
          have z2 := (nI_eq (by omega) (by omega)).mp y2
          omega
        rcases Nat.lt_or_gt_of_ne hqp with w | w
        · exact bad q p w hp u4.symm
        · exact bad p q w hq u4
    · omega
  · rcases hF2 f c m hf hf1 hc hm h15 ho with ⟨a9, -, x2, x3⟩ | ⟨-, x2⟩
    · rw [h27] at x3; exact absurd x3.symm (nI_ne1 (by omega))
    · exact x2 p e hp h36 h41 h39e he
  · rw [w27]; simp [upd]
