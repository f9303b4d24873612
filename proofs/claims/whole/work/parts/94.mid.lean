/-! A COMMIT UP TO ITS ADDS: class and reference keep step -/
theorem fm_b (R : SR) (f D a n : Nat) (hpr : ∀ i, i < n → R.2 43 i = 1 → ∃ b, b < 16 ∧ R.2 45 i = nI b) : ∀ i, i ≤ n → ∀ l, l < 32 → (tb (fmM R f D a 0 i) l = true ↔ ∃ j, j < i ∧ fmQ R f D a j ∧ (R.2 45 j).toNatClampNeg = l) := by
  intro i
  induction i with
  | zero =>
    intro _ l _
    rw [show fmM R f D a 0 0 = 0 from rfl, tb_0]
    exact Iff.intro (fun h => nomatch h) (fun h => by obtain ⟨j, hj, -⟩ := h; exact absurd hj (Nat.not_lt_zero j))
  | succ i ih =>
    intro hi l hl
    have ih := ih (by omega) l hl
    rw [show fmM R f D a 0 (i + 1) = if fmQ R f D a i then fmM R f D a 0 i ||| bitN (R.2 45 i).toNatClampNeg else fmM R f D a 0 i from rfl]
    by_cases hq : fmQ R f D a i
    · obtain ⟨b, hb, hpb⟩ := hpr i (by omega) hq.1
      have hcl : (R.2 45 i).toNatClampNeg = b := by rw [hpb]; exact nI_clamp (by omega)
      rw [if_pos hq, hcl, tb_or, tb_bit (by omega) hl, Bool.or_eq_true, decide_eq_true_eq, ih]
      constructor
      · rintro (⟨j, h1, h2⟩ | h)
        · exact ⟨j, by omega, h2⟩
        · exact ⟨i, by omega, hq, by rw [hcl]; exact h.symm⟩
      · rintro ⟨j, h1, h2, h3⟩
        by_cases e : j = i
        · subst e; right; rw [← h3, hcl]
        · exact Or.inl ⟨j, by omega, h2, h3⟩
    · rw [if_neg hq, ih]
      constructor
      · rintro ⟨j, h1, h2⟩; exact ⟨j, by omega, h2⟩
      · rintro ⟨j, h1, h2, h3⟩
        by_cases e : j = i
        · subst e; exact absurd h2 hq
        · exact ⟨j, by omega, h2, h3⟩
theorem fu_b (R : SR) (e a n : Nat) (F : Nat → Int32) (hpr : ∀ i, i < n → R.2 43 i = 2 → lfp R i < 16) : ∀ i, i ≤ n → ∀ l, l < 32 → (tb (fuM R e a 0 F i).1 l = true → ∃ j, j < i ∧ fuQ R e a l j ∧ lfp R j = l ∧ (fuM R e a 0 F i).2 l = R.2 45 j) ∧ ((∃ j, j < i ∧ fuQ R e a l j ∧ lfp R j = l) → tb (fuM R e a 0 F i).1 l = true) := by
  intro i
  induction i with
  | zero =>
    intro _ l _
    rw [show fuM R e a 0 F 0 = (0, F) from rfl]
    exact ⟨fun h => (by rw [tb_0] at h; cases h), fun h => (by obtain ⟨j, hj, -⟩ := h; exact absurd hj (Nat.not_lt_zero j))⟩
  | succ i ih =>
    intro hi l hl
    have ih := ih (by omega) l hl
    rw [show fuM R e a 0 F (i + 1) = if fuQ R e a (lfp R i) i then ((fuM R e a 0 F i).1 ||| bitN (lfp R i), upd (fuM R e a 0 F i).2 (lfp R i) (R.2 45 i)) else fuM R e a 0 F i from rfl]
    by_cases hq : fuQ R e a (lfp R i) i
    · have hb := hpr i (by omega) hq.1
      rw [if_pos hq]
      dsimp only
      rw [tb_or, tb_bit (by omega) hl, Bool.or_eq_true, decide_eq_true_eq]
      by_cases el : l = lfp R i
      · refine ⟨fun _ => ⟨i, by omega, by rw [el]; exact hq, el.symm, by simp [upd, el]⟩, fun _ => Or.inr el⟩
      · refine ⟨fun h => ?_, fun ⟨j, h1, h2, h3⟩ => ?_⟩
        · obtain ⟨j, h1, h2, h3, h4⟩ := ih.1 (h.resolve_right el)
          exact ⟨j, by omega, h2, h3, by simp [upd, el, h4]⟩
        · left
          refine ih.2 ⟨j, ?_, h2, h3⟩
          by_cases e9 : j = i
          · subst e9; exact absurd h3.symm el
          · omega
    · rw [if_neg hq]
      refine ⟨fun h => ?_, fun ⟨j, h1, h2, h3⟩ => ?_⟩
      · obtain ⟨j, h1, h2⟩ := ih.1 h
        exact ⟨j, by omega, h2⟩
      · refine ih.2 ⟨j, ?_, h2, h3⟩
        by_cases e9 : j = i
        · subst e9; rw [h3] at hq; exact absurd h2 hq
        · omega
theorem ct_K (R : SR) (f e D : Nat) (v : Nat) (hv : v < 31) : rK (ctR R f e D) e v = tk D (rK R f) v ∧ rU (ctR R f e D) e v = tu D (rU R f) v ∧ (ctR R f e D).2 24 (31 * e + v) = R.2 24 (31 * f + v) := ⟨seg_at hv, seg_at hv, seg_at (G := fun v => R.2 24 (31 * f + v)) hv⟩
theorem ct_O (R : SR) (f e D : Nat) (l : Nat) (hl : l < 16) : (ctR R f e D).2 26 (16 * e + l) = R.2 26 (16 * f + l) := by
  unfold ctR
  rw [ra_at]
  exact seg_at (G := fun v => R.2 26 (16 * f + v)) hl
theorem og_seg {w e i : Nat} {F G A : Nat → Int32} (h : og w e F A) (hi : i ≤ w) : og w e F (seg (w * e) i G A) := fun j hj => by
  rw [← h j hj]; simp only [seg]; rw [if_neg (by omega)]
theorem rof_ct (R : SR) (f e D : Nat) : rof e R (ctR R f e D) := by
  refine ⟨og_seg og.rf (Nat.le_refl _), og_seg og.rf (Nat.le_refl _), og_seg (G := fun v => R.2 24 (31 * f + v)) og.rf (Nat.le_refl _), ?_, fun q k1 k2 => ?_⟩
  · unfold ctR
    rw [ra_at]
    exact og_seg og.rf (Nat.le_refl _)
  by_cases h : q = 13
  · subst h; exact og.rf.u1
  · rw [(ctR_f R f e D).2 q h (by omega) (by omega) (by omega) (by omega) (by omega)]; exact og.rf
theorem rof_1 (e : Nat) (T : SR) {f : Nat} (x : Int32) (h1 : 13 ≤ f) (h2 : f ≤ 21) : rof e T (ra T f (upd (T.2 f) e x)) := by
  refine ⟨?_, ?_, ?_, ?_, fun q k1 k2 => ?_⟩
  · rw [show (ra T f (upd (T.2 f) e x)).2 22 = T.2 22 by simp [ra, show (22 : Nat) ≠ f by omega]]; exact og.rf
  · rw [show (ra T f (upd (T.2 f) e x)).2 23 = T.2 23 by simp [ra, show (23 : Nat) ≠ f by omega]]; exact og.rf
  · rw [show (ra T f (upd (T.2 f) e x)).2 24 = T.2 24 by simp [ra, show (24 : Nat) ≠ f by omega]]; exact og.rf
  · rw [show (ra T f (upd (T.2 f) e x)).2 26 = T.2 26 by simp [ra, show (26 : Nat) ≠ f by omega]]; exact og.rf
  · by_cases e9 : q = f
    · subst e9; rw [ra_at]; exact og.rf.u1
    · rw [show (ra T f (upd (T.2 f) e x)).2 q = T.2 q by simp [ra, e9]]; exact og.rf
theorem rof_ch2 (R : SR) (e a D : Nat) : rof e R (ch2 R e a D) := by
  have h0 := (rof_ct R (e - 1) e D).trans (rof_1 e (ctR R (e - 1) e D) (nI a) (f := 15) (by decide) (by decide))
  have h1 := h0.trans (rof_1 e (ch0 R e a D) (fmM (ch0 R e a D) (e - 1) D a ((ch0 R e a D).2 17 e) (R.1 42)) (f := 17) (by decide) (by decide))
  have h2 := h1.trans (rof_1 e (ch1 R e a D) (fuM (ch1 R e a D) e a ((ch1 R e a D).2 18 e) ((ch1 R e a D).2 51) (R.1 42)).1 (f := 18) (by decide) (by decide))
  refine h2.trans (rof.sm rfl rfl rfl rfl (fun f k1 k2 => ?_))
  simp [ch2, fuR, d2, ra, show f ≠ 51 by omega]
/-- one row of a tree, on both sides -/
def TE (S : SC) (T : SR) (e f D : Nat) : Prop := S.1 2 e = D ∧ T.2 13 f = nI D ∧ ∀ v, v < 31 → S.2.2 2 e v = rK T f v ∧ S.2.2 4 e v = rU T f v ∧ S.2.2 3 e v = if rK T f v = -1 then -1 else T.2 24 (31 * f + v)
def ow (T : SR) (e : Nat) (l : Nat) : Int32 := T.2 26 (16 * e + l)
/-- what a commit finds -/
def CH (S : SC) (R : SR) (e m a D0 : Nat) : Prop :=
  (1 ≤ e ∧ e < 60 ∧ sE S = e ∧ R.1 12 = e ∧ m < 16 ∧ a < 16 ∧ sQ S = R.1 42 ∧ sP S = R.1 35) ∧
  (R.2 16 e = 0 ∧ R.2 17 e = 0 ∧ R.2 18 e = 0 ∧ R.2 19 e = 0 ∧ R.2 20 e = 0) ∧
  TE S R (e - 1) (e - 1) D0 ∧ (∀ l, l < 16 → S.2.1 20 l = ow R (e - 1) l) ∧ TI D0 (rK R (e - 1)) (rU R (e - 1)) ∧ OI (rK R (e - 1)) (ow R (e - 1)) ∧
  (∀ q, q < 16 → S.2.1 0 q = R.2 27 q ∧ S.2.1 1 q = R.2 28 q ∧ (R.2 27 q = nI (e - 1) → ∃ l, l < 16 ∧ R.2 28 q = nI l ∧ ow R (e - 1) l = nI q)) ∧
  (R.2 27 m = nI (e - 1) ∧ R.2 28 m = nI a) ∧
  (∀ i, i < R.1 42 → S.2.1 17 i = R.2 43 i ∧ (∃ q, q < 16 ∧ R.2 44 i = nI q ∧ R.2 27 q = nI (e - 1)) ∧ (R.2 43 i = 0 ∨ R.2 43 i = 1 ∨ R.2 43 i = 2) ∧ (R.2 43 i ≠ 2 → S.2.1 18 i = R.2 45 i) ∧ (R.2 43 i = 2 → S.2.1 18 i = R.2 28 (R.2 44 i).toNatClampNeg ∧ S.2.1 19 i = R.2 45 i ∧ R.2 45 i ≠ -1) ∧ (R.2 43 i = 1 → ∃ b, b < 16 ∧ R.2 45 i = nI b) ∧ (R.2 43 i = 0 → ∃ p, p < R.1 35 ∧ R.2 45 i = nI p)) ∧
  (∀ p, p < R.1 35 → S.2.1 11 p = R.2 36 p ∧ S.2.1 12 p = R.2 37 p ∧ S.2.1 13 p = R.2 38 p ∧ S.2.1 14 p = R.2 39 p ∧ (∃ q, q < 16 ∧ R.2 36 p = nI q) ∧ R.2 38 p ≠ -1 ∧ R.2 39 p ≠ nI e ∧ (R.2 39 p ≠ -1 → S.2.1 15 p = R.2 40 p))
