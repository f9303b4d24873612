/-! ONE PASS IS ENOUGH -/
def cls (N : Nat) (ru : Int32 → Int32 → Int32 → Prop) (K : Nat → Prop) : Prop := ∀ x z, x < N → z < N → (ru (nI x) (-1) (nI z) → K x → K z) ∧ ∀ y, y < N → ru (nI x) (nI y) (nI z) → K x → K y → K z
theorem clR_ru {R : SR} (hN : R.1 1 ≤ 2600) (hw : wfF R) (hs : wfS R) (h0 : ∀ k, k < R.1 1 → (R.2 2 k = 0 ↔ k = 0)) (h1 : 1 ≤ R.1 1) (he : ∀ k, k < R.1 7 → (∃ a, a < R.1 1 ∧ R.2 8 k = nI a) ∧ ∃ b, b < R.1 1 ∧ R.2 9 k = nI b) (K : Nat → Prop) : clR R K ↔ K 0 ∧ (∀ k, k < R.1 1 → R.2 5 k ≠ 0 → K k) ∧ cls (R.1 1) (ruR R) K := by
  have inj : ∀ {p q : Nat}, p < 2600 → q < 2600 → nI p = nI q → p = q := fun hp hq h => (nI_eq (by omega) (by omega)).mp h
  constructor
  · rintro ⟨g1, g2, g3⟩
    refine ⟨g2 0 (by omega) (Or.inl ((h0 0 (by omega)).mpr rfl)), g1, fun x z hx hz => ⟨fun hr kx => ?_, fun y hy hr kx ky => ?_⟩⟩
    · rcases hr with ⟨k, k1, k2, k3, k4, k5, k6⟩ | ⟨k, k1, k2, k3, k4⟩
      · have ez := inj (by omega) (by omega) k4
        subst ez
        refine g2 z k1 (Or.inr ⟨k2, k3, ?_, fun h4 => ?_⟩)
        · rw [← k5, nI_clamp (by omega)]; exact kx
        · rcases k6 with ⟨-, k7⟩ | ⟨k6, -⟩
          · obtain ⟨b, hb, hb2⟩ := hs z k1 h4
            rw [hb2] at k7
            exact absurd k7.symm (nI_ne1 (by omega))
          · exact absurd h4 k6
      · have := g3 k k1
        rw [← k2, ← k3, nI_clamp (by omega), nI_clamp (by omega)] at this
        exact this kx
    · rcases hr with ⟨k, k1, k2, k3, k4, k5, k6⟩ | ⟨k, k1, k2, k3, k4⟩
      · have ez := inj (by omega) (by omega) k4
        subst ez
        refine g2 z k1 (Or.inr ⟨k2, k3, ?_, fun h4 => ?_⟩)
        · rw [← k5, nI_clamp (by omega)]; exact kx
        · rcases k6 with ⟨-, k7⟩ | ⟨k6, -⟩
          · rw [← k7, nI_clamp (by omega)]; exact ky
          · exact absurd h4 k6
      · exact absurd k4 (nI_ne1 (by omega))
  · rintro ⟨g0, g1, g2⟩
    refine ⟨g1, fun k hk hf => ?_, fun k hk hx => ?_⟩
    · rcases hf with hf | ⟨f1, f2, f3, f4⟩
      · rw [(h0 k hk).mp hf]; exact g0
      · obtain ⟨b, hb, hb2⟩ := hw k hk f1 f2
        rw [hb2, nI_clamp (by omega)] at f3
        by_cases h4 : R.2 2 k = 4
        · obtain ⟨q, hq, hq2⟩ := hs k hk h4
          have f5 := f4 h4
          rw [hq2, nI_clamp (by omega)] at f5
          exact (g2 b k (by omega) hk).2 q (by omega) (Or.inl ⟨k, hk, f1, f2, rfl, hb2.symm, Or.inl ⟨h4, hq2.symm⟩⟩) f3 f5
        · exact (g2 b k (by omega) hk).1 (Or.inl ⟨k, hk, f1, f2, rfl, hb2.symm, Or.inr ⟨h4, rfl⟩⟩) f3
    · obtain ⟨⟨p, hp, hp2⟩, q, hq, hq2⟩ := he k hk
      rw [hp2, nI_clamp (by omega)] at hx
      rw [hq2, nI_clamp (by omega)]
      exact (g2 p q hp hq).1 (Or.inr ⟨k, hk, hp2.symm, hq2.symm, rfl⟩) hx
theorem isO_n {n a : Nat} {o : Nat → Int32} (ha : a < n) (hn : n ≤ 4096) : isO n o (nI a) = decide (o a ≠ 0) := by
  unfold isO; rw [inn_n ha (by omega), nI_clamp (by omega)]; rfl
theorem lrn_n {n a : Nat} {o : Nat → Int32} (ha : a < n) (hn : n ≤ 4096) : lrn n o (nI a) = upd o a 1 := by
  unfold lrn; rw [if_pos (inn_n ha (by omega)), nI_clamp (by omega)]
def rlo (r : Nat) (n : Nat) (f1 f2 f3 : Nat → Int32) : Prop := (∀ i, i < r → ∃ x t, f1 i = nI x ∧ f3 i = nI t ∧ x < t ∧ t < n ∧ (f2 i = -1 ∨ ∃ y, y < t ∧ f2 i = nI y)) ∧ ∀ i j, i < j → j < r → ∃ t u, f3 i = nI t ∧ f3 j = nI u ∧ t ≤ u ∧ t < n ∧ u < n
theorem ord_rlo {S : SC} (h : ordC S) : rlo (sR S) (sN S) (S.2.1 22) (S.2.1 23) (S.2.1 24) := ⟨h.1, fun i j h1 h2 => by
  obtain ⟨t, u, q1, q2, q3, q4⟩ := h.2 i j h1 h2
  exact ⟨t, u, q1, q2, q3, by omega, q4⟩⟩
theorem tgt_le {r n : Nat} {f1 f2 f3 : Nat → Int32} (hn : n ≤ 4096) (hr : rlo r n f1 f2 f3) {i j t u : Nat} (hij : i < j) (hj : j < r) (e3 : f3 i = nI t) (ht : t < n) (q4 : f3 j = nI u) (hu : u < n) : t ≤ u := by
  have inj : ∀ {p q : Nat}, p < n → q < n → nI p = nI q → p = q := fun hp hq h => (nI_eq (by omega) (by omega)).mp h
  obtain ⟨t9, u9, h1, h2, h3, h4, h5⟩ := hr.2 i j hij hj
  rw [h1] at e3
  rw [h2] at q4
  have := inj h4 ht e3
  have := inj h5 hu q4
  omega
def spA (r n : Nat) (f1 f2 f3 : Nat → Int32) (i : Nat) (o o1 : Nat → Int32) : Prop :=
  (∀ j, o1 j = 0 ∨ o1 j = 1) ∧ (∀ j, o j = 1 → o1 j = 1) ∧
  (∀ j, i ≤ j → j < r → ∀ x t, x < n → t < n → f1 j = nI x → f3 j = nI t → o1 x = 1 → (f2 j = -1 ∨ ∃ y, y < n ∧ f2 j = nI y ∧ o1 y = 1) → o1 t = 1) ∧
  (∀ K : Nat → Prop, (∀ j, o j = 1 → K j) → (∀ j, i ≤ j → j < r → ∀ x t, x < n → t < n → f1 j = nI x → f3 j = nI t → K x → (f2 j = -1 ∨ ∃ y, y < n ∧ f2 j = nI y ∧ K y) → K t) → ∀ j, o1 j = 1 → K j) ∧
  ∀ k, k < n → (∀ j, i ≤ j → j < r → f3 j ≠ nI k) → o1 k = o k
theorem sp_st {r n : Nat} {f1 f2 f3 : Nat → Int32} (hn : n ≤ 4096) (hr : rlo r n f1 f2 f3) {c i : Nat} {o o2 o3 : Nat → Int32} (hi : i + (c + 1) = r) (ho : ∀ j, o j = 0 ∨ o j = 1) {x t : Nat} (e1 : f1 i = nI x) (e3 : f3 i = nI t) (hxt : x < t) (htn : t < n) (hy : f2 i = -1 ∨ ∃ y, y < t ∧ f2 i = nI y) (ih : (∀ j, o2 j = 0 ∨ o2 j = 1) → spA r n f1 f2 f3 (i + 1) o2 o3) (ho2 : ((o x = 1 ∧ (f2 i = -1 ∨ ∃ y, y < n ∧ f2 i = nI y ∧ o y = 1)) ∧ o2 = upd o t 1) ∨ (¬ (o x = 1 ∧ (f2 i = -1 ∨ ∃ y, y < n ∧ f2 i = nI y ∧ o y = 1)) ∧ o2 = o)) : spA r n f1 f2 f3 i o o3 := by
  have inj : ∀ {p q : Nat}, p < n → q < n → nI p = nI q → p = q := fun hp hq h => (nI_eq (by omega) (by omega)).mp h
  have b2 : ∀ j, o2 j = 0 ∨ o2 j = 1 := fun j => by
    rcases ho2 with ⟨-, q⟩ | ⟨-, q⟩
    · rw [q]; simp only [upd]
      by_cases w : j = t
      · rw [if_pos w]; exact Or.inr rfl
      · rw [if_neg w]; exact ho j
    · rw [q]; exact ho j
  have m2 : ∀ j, o j = 1 → o2 j = 1 := fun j hj => by
    rcases ho2 with ⟨-, q⟩ | ⟨-, q⟩
    · rw [q]; simp only [upd]
      by_cases w : j = t
      · rw [if_pos w]
      · rw [if_neg w]; exact hj
    · rw [q]; exact hj
  have s2 : ∀ j, j ≠ t → o2 j = o j := fun j hj => by
    rcases ho2 with ⟨-, q⟩ | ⟨-, q⟩
    · rw [q]; simp [upd, hj]
    · rw [q]
  obtain ⟨i1, i2, i3, i4, i5⟩ := ih b2
  -- a number below t is no target from i on
  have low : ∀ k, k < t → o3 k = o k := fun k hk => by
    rw [i5 k (by omega) (fun j h1 h2 => ?_), s2 k (by omega)]
    obtain ⟨x8, t8, -, q4, -, q5, -⟩ := hr.1 j h2
    intro q6
    rw [q4] at q6
    have w1 := inj q5 (by omega) q6
    -- t ≤ the target of j
    have w2 : t ≤ t8 := tgt_le hn hr (by omega) h2 e3 htn q4 q5
    omega
  refine ⟨i1, fun j hj => i2 j (m2 j hj), fun j h1 h2 x9 t9 hx9 ht9 w1 w3 w4 w5 => ?_, fun K hK hc j hj => ?_, fun k hk hno => ?_⟩
  · by_cases q : j = i
    · subst q
      have ex := inj hx9 (by omega) (w1.symm.trans e1)
      have et := inj ht9 htn (w3.symm.trans e3)
      subst ex et
      refine i2 t9 ?_
      rw [low x9 hxt] at w4
      have hc9 : o x9 = 1 ∧ (f2 j = -1 ∨ ∃ y, y < n ∧ f2 j = nI y ∧ o y = 1) := by
        refine ⟨w4, w5.imp id (fun ⟨y, u1, u2, u3⟩ => ⟨y, u1, u2, ?_⟩)⟩
        rcases hy with hy | ⟨y9, hy1, hy2⟩
        · rw [hy] at u2; exact absurd u2.symm (nI_ne1 (by omega))
        · rw [hy2] at u2
          have := inj (by omega) u1 u2
          subst this
          rw [low y9 hy1] at u3; exact u3
      rcases ho2 with ⟨-, q⟩ | ⟨q, -⟩
      · rw [q]; simp [upd]
      · exact absurd hc9 q
    · exact i3 j (by omega) h2 x9 t9 hx9 ht9 w1 w3 w4 w5
  · refine i4 K (fun k hk => ?_) (fun j9 h1 h2 => hc j9 (by omega) h2) j hj
    by_cases q : k = t
    · subst q
      rcases ho2 with ⟨⟨w1, w2⟩, -⟩ | ⟨-, w⟩
      · exact hc i (Nat.le_refl _) (by omega) x k (by omega) htn e1 e3 (hK x w1) (w2.imp id (fun ⟨y, u1, u2, u3⟩ => ⟨y, u1, u2, hK y u3⟩))
      · rw [w] at hk; exact hK k hk
    · rw [s2 k q] at hk; exact hK k hk
  · have hkt : k ≠ t := fun q => hno i (Nat.le_refl _) (by omega) (by rw [e3, q])
    rw [i5 k hk (fun j h1 h2 => hno j (by omega) h2), s2 k hkt]
theorem sp_A {r n : Nat} {f1 f2 f3 : Nat → Int32} (hn : n ≤ 4096) (hr : rlo r n f1 f2 f3) : ∀ c i o, i + c = r → (∀ j, o j = 0 ∨ o j = 1) → spA r n f1 f2 f3 i o (spr n f1 f2 f3 c i o) := by
  have inj : ∀ {p q : Nat}, p < n → q < n → nI p = nI q → p = q := fun hp hq h => (nI_eq (by omega) (by omega)).mp h
  intro c
  induction c with
  | zero =>
    intro i o hi ho
    exact ⟨ho, fun _ h => h, fun j h1 h2 => absurd h1 (by omega), fun K h _ => h, fun _ _ _ => rfl⟩
  | succ c ih =>
    intro i o hi ho
    obtain ⟨x, t, e1, e3, hxt, htn, hy⟩ := hr.1 i (by omega)
    obtain ⟨o2, eo⟩ : ∃ o2, o2 = spS n f1 f2 f3 o i := ⟨_, rfl⟩
    have es : spr n f1 f2 f3 (c + 1) i o = spr n f1 f2 f3 c (i + 1) o2 := by rw [eo]; rfl
    rw [es]
    -- what one rule does
    have hcond : (isO n o (f1 i) = true ∧ (f2 i = -1 ∨ isO n o (f2 i) = true)) ↔ (o x = 1 ∧ (f2 i = -1 ∨ ∃ y, y < n ∧ f2 i = nI y ∧ o y = 1)) := by
      rw [e1, isO_n (by omega) hn, decide_eq_true_eq]
      have b1 : ∀ k, o k ≠ 0 ↔ o k = 1 := fun k => ⟨fun q => (ho k).resolve_left q, fun q => by rw [q]; decide⟩
      rw [b1 x]
      constructor
      · rintro ⟨q1, q2⟩
        refine ⟨q1, q2.imp id (fun q => ?_)⟩
        rcases hy with hy | ⟨y, hy1, hy2⟩
        · rw [hy] at q; exact absurd q (by simp [isO, inn])
        · rw [hy2, isO_n (by omega) hn, decide_eq_true_eq, b1 y] at q
          exact ⟨y, by omega, hy2, q⟩
      · rintro ⟨q1, q2⟩
        refine ⟨q1, q2.imp id (fun ⟨y, w1, w2, w3⟩ => ?_)⟩
        rw [w2, isO_n w1 hn, decide_eq_true_eq, b1 y]; exact w3
    have ho2 : ((o x = 1 ∧ (f2 i = -1 ∨ ∃ y, y < n ∧ f2 i = nI y ∧ o y = 1)) ∧ o2 = upd o t 1) ∨ (¬ (o x = 1 ∧ (f2 i = -1 ∨ ∃ y, y < n ∧ f2 i = nI y ∧ o y = 1)) ∧ o2 = o) := by
      rw [eo]; unfold spS
      by_cases q : isO n o (f1 i) = true ∧ (f2 i = -1 ∨ isO n o (f2 i) = true)
      · rw [if_pos q, e3, lrn_n htn hn]; exact Or.inl ⟨hcond.mp q, rfl⟩
      · rw [if_neg q]; exact Or.inr ⟨fun w => q (hcond.mpr w), rfl⟩
    exact sp_st hn hr hi ho e1 e3 hxt htn hy (ih (i + 1) o2 (by omega)) ho2
