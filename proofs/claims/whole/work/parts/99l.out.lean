/-! what is out is what the intruder knows -/
theorem kn_mono {R T : SR} (h1 : R.1 1 ≤ T.1 1) (h2 : ∀ f, f = 2 ∨ f = 3 ∨ f = 4 → ∀ k, k < R.1 1 → T.2 f k = R.2 f k) (h3 : enx R T) (h5 : ∀ k, k < R.1 1 → R.2 5 k ≠ 0 → T.2 5 k ≠ 0) {k : Nat} (h : KnR R k) : KnR T k := by
  intro K hK
  refine h K ⟨fun j hj ht => hK.1 j (by omega) (h5 j hj ht), fun j hj hf => hK.2.1 j (by omega) ?_, fun j hj hx => ?_⟩
  · unfold fol at hf ⊢
    rw [h2 2 (by omega) j hj, h2 3 (by omega) j hj, h2 4 (by omega) j hj]; exact hf
  · have := hK.2.2 j (by have := h3.1; omega)
    rw [h3.2 8 (by decide) (by decide) j hj, h3.2 9 (by decide) (by decide) j hj] at this
    exact this hx
theorem kn_pass {S : SC} {R : SR} (hN : sN S = R.1 1) (hN26 : R.1 1 ≤ 2600) (hN1 : 1 ≤ R.1 1) (hru : ∀ x y z, ruC S x y z ↔ ruR R x y z) (hor : ordC S) (hw : wfF R) (hs : wfS R) (h0 : ∀ k, k < R.1 1 → (R.2 2 k = 0 ↔ k = 0)) (he : ∀ k, k < R.1 7 → (∃ a, a < R.1 1 ∧ R.2 8 k = nI a) ∧ ∃ b, b < R.1 1 ∧ R.2 9 k = nI b) (o : Nat → Int32) (ho : ∀ j, o j = 0 ∨ o j = 1) (hz : ∀ j, R.1 1 ≤ j → o j = 0) (hsnd : ∀ k, o k = 1 → KnR R k) (h00 : o 0 = 1) (htk : ∀ k, k < R.1 1 → R.2 5 k ≠ 0 → o k = 1) {f : Nat} (hf : f ≤ sR S) (hold : ∀ j, j < f → ∀ x t, x < R.1 1 → t < R.1 1 → S.2.1 22 j = nI x → S.2.1 24 j = nI t → o x = 1 → (S.2.1 23 j = -1 ∨ ∃ y, y < R.1 1 ∧ S.2.1 23 j = nI y ∧ o y = 1) → o t = 1) : ∀ k, k < R.1 1 → (spr (sN S) (S.2.1 22) (S.2.1 23) (S.2.1 24) (sR S - f) f o k = 1 ↔ KnR R k) := by
  have inj : ∀ {p q : Nat}, p < 2600 → q < 2600 → nI p = nI q → p = q := fun hp hq h => (nI_eq (by omega) (by omega)).mp h
  obtain ⟨a1, a2, a3, a4, a5⟩ := sp_A (r := sR S) (n := sN S) (by omega) (ord_rlo hor) (sR S - f) f o (by omega) ho
  obtain ⟨o1, eo⟩ : ∃ o1, o1 = spr (sN S) (S.2.1 22) (S.2.1 23) (S.2.1 24) (sR S - f) f o := ⟨_, rfl⟩
  rw [← eo] at a1 a2 a3 a4 a5 ⊢
  rw [hN] at a3 a4 a5
  have hcl := clR_ru hN26 hw hs h0 hN1 he
  -- every rule is obeyed
  have all : ∀ j, j < sR S → ∀ x t, x < R.1 1 → t < R.1 1 → S.2.1 22 j = nI x → S.2.1 24 j = nI t → o1 x = 1 → (S.2.1 23 j = -1 ∨ ∃ y, y < R.1 1 ∧ S.2.1 23 j = nI y ∧ o1 y = 1) → o1 t = 1 := by
    intro j hj x t hx ht w1 w3 w4 w5
    by_cases q : f ≤ j
    · exact a3 j q hj x t hx ht w1 w3 w4 w5
    · obtain ⟨x9, t9, u1, u3, u4, u5, u6⟩ := hor.1 j hj
      rw [hN] at u5
      have ex := inj (by omega) (by omega) (w1.symm.trans u1)
      have et := inj (by omega) (by omega) (w3.symm.trans u3)
      subst ex et
      have low : ∀ k, k < t → o1 k = o k := fun k hk => a5 k (by omega) (fun i h1 h2 => by
        obtain ⟨x8, t8, -, q4, -, q5, -⟩ := hor.1 i h2
        have := tgt_le (n := sN S) (by omega) (ord_rlo hor) (show j < i by omega) h2 w3 (by omega) q4 q5
        rw [q4]
        exact fun q6 => by have := inj (by omega) (by omega) q6; omega)
      rw [low x u4] at w4
      refine a2 t (hold j (by omega) x t hx ht w1 w3 w4 (w5.imp id (fun ⟨y, v1, v2, v3⟩ => ⟨y, v1, v2, ?_⟩)))
      rcases u6 with u6 | ⟨y9, u6, u7⟩
      · rw [u6] at v2; exact absurd v2.symm (nI_ne1 (by omega))
      · rw [u7] at v2
        have := inj (by omega) (by omega) v2
        subst this
        rw [low y9 u6] at v3; exact v3
  intro k hk
  constructor
  · intro h1
    refine a4 (fun j => KnR R j) hsnd (fun j h2 h3 x t hx ht w1 w3 w4 w5 => ?_) k h1
    have hKn := (hcl (KnR R)).mp (KnR_cl R)
    rcases w5 with w5 | ⟨y, v1, v2, v3⟩
    · exact (hKn.2.2 x t hx ht).1 ((hru _ _ _).mp ⟨j, h3, w1, w5, w3⟩) w4
    · exact (hKn.2.2 x t hx ht).2 y v1 ((hru _ _ _).mp ⟨j, h3, w1, v2, w3⟩) w4 v3
  · intro hKn
    refine hKn (fun j => o1 j = 1) ((hcl _).mpr ⟨a2 0 h00, fun j hj ht => a2 j (htk j hj ht), fun x z hx hz9 => ⟨fun hr hx1 => ?_, fun y hy hr hx1 hy1 => ?_⟩⟩)
    · obtain ⟨j, hj, w1, w2, w3⟩ := (hru _ _ _).mpr hr
      exact all j hj x z hx hz9 w1 w3 hx1 (Or.inl w2)
    · obtain ⟨j, hj, w1, w2, w3⟩ := (hru _ _ _).mpr hr
      exact all j hj x z hx hz9 w1 w3 hx1 (Or.inr ⟨y, hy, w2, hy1⟩)
theorem ucn_pc {F G : Nat → Int32} {S : SC} {e : Nat} (he : nI e ≠ -1) : ∀ n, (∀ p, p < n → S.2.1 14 p = G p ∧ ((G p = F p ∧ F p ≠ nI e) ∨ (F p = -1 ∧ G p = nI e))) → ucn G n = ucn F n + pcN S e (fun _ => true) n := by
  intro n
  induction n with
  | zero => exact fun _ => rfl
  | succ n ih =>
    intro h
    have ih := ih (fun p hp => h p (by omega))
    obtain ⟨g1, g2⟩ := h n (by omega)
    simp only [ucn, pcN]
    rw [g1, ih]
    rcases g2 with ⟨g2, g3⟩ | ⟨g2, g3⟩
    · rw [g2]
      by_cases q : F n = -1
      · simp [q, he.symm]
      · simp [q, g3]; omega
    · rw [g3, g2]
      simp [he]; omega
/-- rows of other epochs -/
theorem rof_row {e : Nat} {T T1 : SR} (h : rof e T T1) {f v : Nat} (hf : f ≠ e) (hv : v < 31) : rK T1 f v = rK T f v ∧ rU T1 f v = rU T f v ∧ T1.2 24 (31 * f + v) = T.2 24 (31 * f + v) := ⟨h.1 _ (by omega), h.2.1 _ (by omega), h.2.2.1 _ (by omega)⟩
theorem rof_ow {e : Nat} {T T1 : SR} (h : rof e T T1) {f l : Nat} (hf : f ≠ e) (hl : l < 16) : ow T1 f l = ow T f l := h.2.2.2.1 _ (by omega)
theorem rof_i {e : Nat} {T T1 : SR} (h : rof e T T1) {f g : Nat} (hf : f ≠ e) (h1 : 13 ≤ g) (h2 : g ≤ 21) : T1.2 g f = T.2 g f := h.2.2.2.2 g h1 h2 f (by omega)
