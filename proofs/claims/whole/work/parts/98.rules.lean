/-! RULES: who knows x (and y) knows z -/
def ruC (S : SC) (x y z : Int32) : Prop := ∃ i, i < sR S ∧ S.2.1 22 i = x ∧ S.2.1 23 i = y ∧ S.2.1 24 i = z
def ruR (R : SR) (x y z : Int32) : Prop := (∃ k, k < R.1 1 ∧ R.2 2 k ≠ 0 ∧ R.2 2 k ≠ 1 ∧ z = nI k ∧ x = R.2 3 k ∧ ((R.2 2 k = 4 ∧ y = R.2 4 k) ∨ (R.2 2 k ≠ 4 ∧ y = -1))) ∨ ∃ k, k < R.1 7 ∧ x = R.2 8 k ∧ z = R.2 9 k ∧ y = -1
def ordC (S : SC) : Prop := (∀ i, i < sR S → ∃ x t, S.2.1 22 i = nI x ∧ S.2.1 24 i = nI t ∧ x < t ∧ t < sN S ∧ (S.2.1 23 i = -1 ∨ ∃ y, y < t ∧ S.2.1 23 i = nI y)) ∧ ∀ i j, i < j → j < sR S → ∃ t u, S.2.1 24 i = nI t ∧ S.2.1 24 j = nI u ∧ t ≤ u ∧ u < sN S
theorem ru_tie (S : SC) (a b c x y z : Int32) : ruC (tieS S a b c) x y z ↔ ruC S x y z ∨ (x = a ∧ y = b ∧ z = c) := by
  have e0 : sR (tieS S a b c) = sR S + 1 := by simp [sR, tieS, stN, sv1]
  have e22 : ∀ i, (tieS S a b c).2.1 22 i = if i = sR S then a else S.2.1 22 i := fun i => by simp [tieS, stN, sv1, upd]
  have e23 : ∀ i, (tieS S a b c).2.1 23 i = if i = sR S then b else S.2.1 23 i := fun i => by simp [tieS, stN, sv1, upd]
  have e24 : ∀ i, (tieS S a b c).2.1 24 i = if i = sR S then c else S.2.1 24 i := fun i => by simp [tieS, stN, sv1, upd]
  constructor
  · rintro ⟨i, h1, h2, h3, h4⟩
    rw [e0] at h1
    rw [e22] at h2
    rw [e23] at h3
    rw [e24] at h4
    by_cases e : i = sR S
    · rw [if_pos e] at h2 h3 h4; exact Or.inr ⟨h2.symm, h3.symm, h4.symm⟩
    · rw [if_neg e] at h2 h3 h4; exact Or.inl ⟨i, by omega, h2, h3, h4⟩
  · rintro (⟨i, h1, h2, h3, h4⟩ | ⟨h2, h3, h4⟩)
    · have e : i ≠ sR S := by omega
      exact ⟨i, by rw [e0]; omega, by rw [e22, if_neg e]; exact h2, by rw [e23, if_neg e]; exact h3, by rw [e24, if_neg e]; exact h4⟩
    · exact ⟨sR S, by rw [e0]; omega, by rw [e22, if_pos rfl]; exact h2.symm, by rw [e23, if_pos rfl]; exact h3.symm, by rw [e24, if_pos rfl]; exact h4.symm⟩
theorem ord_tie {S : SC} (h : ordC S) {x t : Nat} {b : Int32} (hx : x < t) (ht : t + 1 = sN S) (hb : b = -1 ∨ ∃ y, y < t ∧ b = nI y) : ordC (tieS S (nI x) b (nI t)) := by
  have e0 : sR (tieS S (nI x) b (nI t)) = sR S + 1 := by simp [sR, tieS, stN, sv1]
  have eN : sN (tieS S (nI x) b (nI t)) = sN S := by simp [sN, tieS, stN, sv1]
  have e22 : ∀ i, (tieS S (nI x) b (nI t)).2.1 22 i = if i = sR S then nI x else S.2.1 22 i := fun i => by simp [tieS, stN, sv1, upd]
  have e23 : ∀ i, (tieS S (nI x) b (nI t)).2.1 23 i = if i = sR S then b else S.2.1 23 i := fun i => by simp [tieS, stN, sv1, upd]
  have e24 : ∀ i, (tieS S (nI x) b (nI t)).2.1 24 i = if i = sR S then nI t else S.2.1 24 i := fun i => by simp [tieS, stN, sv1, upd]
  refine ⟨fun i hi => ?_, fun i j hij hj => ?_⟩
  · rw [e0] at hi
    rw [e22, e23, e24, eN]
    by_cases e : i = sR S
    · rw [if_pos e, if_pos e, if_pos e]
      exact ⟨x, t, rfl, rfl, hx, by omega, hb⟩
    · rw [if_neg e, if_neg e, if_neg e]; exact h.1 i (by omega)
  · rw [e0] at hj
    rw [e24, e24, if_neg (by omega), eN]
    by_cases e : j = sR S
    · rw [if_pos e]
      obtain ⟨x9, t9, -, h2, -, h4, -⟩ := h.1 i (by omega)
      exact ⟨t9, t, h2, rfl, by omega, by omega⟩
    · rw [if_neg e]; exact h.2 i j hij (by omega)
theorem ru_fr (S : SC) (x y z : Int32) : ruC (frS S) x y z ↔ ruC S x y z := by
  have e0 : sR (frS S) = sR S := by simp [sR, frS, stN]
  unfold ruC
  rw [e0]
  rfl
theorem ord_fr {S : SC} (h : ordC S) : ordC (frS S) := by
  have e0 : sR (frS S) = sR S := by simp [sR, frS, stN]
  have eN : sN (frS S) = sN S + 1 := by simp [sN, frS, stN]
  refine ⟨fun i hi => ?_, fun i j hij hj => ?_⟩
  · rw [e0] at hi
    rw [eN]
    obtain ⟨x, t, h1, h2, h3, h4, h5⟩ := h.1 i hi
    exact ⟨x, t, h1, h2, h3, by omega, h5⟩
  · rw [e0] at hj
    rw [eN]
    obtain ⟨t, u, h1, h2, h3, h4⟩ := h.2 i j hij hj
    exact ⟨t, u, h1, h2, h3, by omega⟩
/-- a state changed outside secrets and rules -/
theorem ru_same {S T : SC} (h0 : sR T = sR S) (h2 : T.2.1 22 = S.2.1 22) (h3 : T.2.1 23 = S.2.1 23) (h4 : T.2.1 24 = S.2.1 24) (x y z : Int32) : ruC T x y z ↔ ruC S x y z := by
  unfold ruC; rw [h0, h2, h3, h4]
theorem ord_same {S T : SC} (h0 : sR T = sR S) (hN : sN T = sN S) (h2 : T.2.1 22 = S.2.1 22) (h3 : T.2.1 23 = S.2.1 23) (h4 : T.2.1 24 = S.2.1 24) (h : ordC S) : ordC T := by
  unfold ordC at h ⊢; rw [h0, hN, h2, h3, h4]; exact h
def bcN (mask : Int32) (n : Nat) : Nat := ((List.range n).filter (fun i => tb mask i)).length
theorem bcN_s (mask : Int32) (n : Nat) : bcN mask (n + 1) = bcN mask n + if tb mask n = true then 1 else 0 := by
  unfold bcN
  rw [List.range_succ, List.filter_append, List.length_append]
  cases h : tb mask n <;> simp [h]
theorem enc_f (S : SC) (e : Nat) (a c : Int32) : sR (encS S e a c) = sR S + 1 ∧ sN (encS S e a c) = sN S ∧ (encS S e a c).2.1 10 e = S.2.1 10 e + 1 ∧ (∀ x y z, ruC (encS S e a c) x y z ↔ ruC S x y z ∨ (x = a ∧ y = -1 ∧ z = c)) := by
  refine ⟨by simp [encS, sR, tieS, stN, sv1, st1], by simp [encS, sN, tieS, stN, sv1, st1], by simp [encS, tieS, stN, sv1, st1], fun x y z => ?_⟩
  rw [← ru_tie S a (-1) c]
  exact ru_same rfl (by funext i; simp [encS, st1]) (by funext i; simp [encS, st1]) (by funext i; simp [encS, st1]) x y z
theorem enc_ord {S : SC} (h : ordC S) (e : Nat) {x t : Nat} (hx : x < t) (ht : t + 1 = sN S) : ordC (encS S e (nI x) (nI t)) :=
  ord_same rfl rfl (by funext i; simp [encS, st1]) (by funext i; simp [encS, st1]) (by funext i; simp [encS, st1]) (ord_tie h hx ht (Or.inl rfl))
theorem snd_A (S : SC) (e : Nat) (mask s : Int32) : ∀ n, n ≤ 31 → sR (sndS S e mask s n) = sR S + bcN mask n ∧ sN (sndS S e mask s n) = sN S ∧ (sndS S e mask s n).2.1 10 e = S.2.1 10 e + nI (bcN mask n) ∧ (∀ x y z, ruC (sndS S e mask s n) x y z ↔ ruC S x y z ∨ ∃ i, i < n ∧ tb mask i = true ∧ x = tk (S.1 2 e) (S.2.2 2 e) i ∧ y = -1 ∧ z = s) ∧ (ordC S → ∀ t, s = nI t → t + 1 = sN S → (∀ i, i < n → tb mask i = true → ∃ k, k < t ∧ tk (S.1 2 e) (S.2.2 2 e) i = nI k) → ordC (sndS S e mask s n)) := by
  intro n
  induction n with
  | zero =>
    intro _
    refine ⟨rfl, rfl, ?_, fun x y z => ⟨Or.inl, fun h => h.elim id (fun ⟨i, hi, _⟩ => absurd hi (Nat.not_lt_zero i))⟩, fun h _ _ _ _ => h⟩
    show S.2.1 10 e = S.2.1 10 e + nI 0
    rw [show nI 0 = 0 from rfl, Int32.add_zero]
  | succ n ih =>
    intro hn
    obtain ⟨i1, i2, i3, i4, i5⟩ := ih (by omega)
    obtain ⟨T, eT⟩ : ∃ T, T = sndS S e mask s n := ⟨_, rfl⟩
    have es : sndS S e mask s (n + 1) = if mask &&& bitN n = 0 then T else encS T e (tk (S.1 2 e) (S.2.2 2 e) n) s := by rw [eT]; rfl
    rw [es, bcN_s]
    rw [← eT] at i1 i2 i3 i4 i5
    by_cases hb : mask &&& bitN n = 0
    · have hb2 := (and_bit (by omega)).mp hb
      rw [if_pos hb, hb2]
      refine ⟨i1, i2, i3, fun x y z => ?_, fun h t h1 h2 h3 => i5 h t h1 h2 (fun i hi => h3 i (by omega))⟩
      rw [i4]
      constructor
      · rintro (h | ⟨i, h1, h2⟩)
        · exact Or.inl h
        · exact Or.inr ⟨i, by omega, h2⟩
      · rintro (h | ⟨i, h1, h2, h3⟩)
        · exact Or.inl h
        · by_cases e9 : i = n
          · subst e9; rw [hb2] at h2; cases h2
          · exact Or.inr ⟨i, by omega, h2, h3⟩
    · have hb2 := (and_bit' (by omega)).mp hb
      rw [if_neg hb, hb2]
      obtain ⟨f1, f2, f3, f4⟩ := enc_f T e (tk (S.1 2 e) (S.2.2 2 e) n) s
      refine ⟨by rw [f1, i1]; simp; omega, by rw [f2, i2], ?_, fun x y z => ?_, fun h t h1 h2 h3 => ?_⟩
      · rw [f3, i3, if_pos rfl, Int32.add_assoc, ← gh_inc]; rfl
      · rw [f4, i4]
        constructor
        · rintro ((h | ⟨i, h1, h2⟩) | ⟨h1, h2, h3⟩)
          · exact Or.inl h
          · exact Or.inr ⟨i, by omega, h2⟩
          · exact Or.inr ⟨n, by omega, hb2, h1, h2, h3⟩
        · rintro (h | ⟨i, h1, h2, h3⟩)
          · exact Or.inl (Or.inl h)
          · by_cases e9 : i = n
            · subst e9; exact Or.inr h3
            · exact Or.inl (Or.inr ⟨i, by omega, h2, h3⟩)
      · obtain ⟨k, hk, hk2⟩ := h3 n (by omega) hb2
        rw [hk2, h1]
        exact enc_ord (i5 h t h1 h2 (fun i hi => h3 i (by omega))) e hk (by rw [i2]; exact h2)
def pcN (S : SC) (e : Nat) (sel : Nat → Bool) : Nat → Nat
  | 0 => 0
  | i + 1 => if S.2.1 14 i = nI e ∧ sel i = true then pcN S e sel i + 1 else pcN S e sel i
theorem pk_A (S : SC) (e : Nat) (sel : Nat → Bool) (s : Int32) : ∀ n, sR (pkS S e sel s n) = sR S + pcN S e sel n ∧ sN (pkS S e sel s n) = sN S ∧ (pkS S e sel s n).2.1 10 e = S.2.1 10 e + nI (pcN S e sel n) ∧ (∀ x y z, ruC (pkS S e sel s n) x y z ↔ ruC S x y z ∨ ∃ i, i < n ∧ (S.2.1 14 i = nI e ∧ sel i = true) ∧ x = S.2.1 12 i ∧ y = -1 ∧ z = s) ∧ (ordC S → ∀ t, s = nI t → t + 1 = sN S → (∀ i, i < n → S.2.1 14 i = nI e → ∃ k, k < t ∧ S.2.1 12 i = nI k) → ordC (pkS S e sel s n)) := by
  intro n
  induction n with
  | zero =>
    refine ⟨rfl, rfl, ?_, fun x y z => ⟨Or.inl, fun h => h.elim id (fun ⟨i, hi, _⟩ => absurd hi (Nat.not_lt_zero i))⟩, fun h _ _ _ _ => h⟩
    show S.2.1 10 e = S.2.1 10 e + nI 0
    rw [show nI 0 = 0 from rfl, Int32.add_zero]
  | succ n ih =>
    obtain ⟨i1, i2, i3, i4, i5⟩ := ih
    obtain ⟨T, eT⟩ : ∃ T, T = pkS S e sel s n := ⟨_, rfl⟩
    have es : pkS S e sel s (n + 1) = if S.2.1 14 n = nI e ∧ sel n = true then encS T e (S.2.1 12 n) s else T := by rw [eT]; rfl
    have ec : pcN S e sel (n + 1) = if S.2.1 14 n = nI e ∧ sel n = true then pcN S e sel n + 1 else pcN S e sel n := rfl
    rw [es, ec]
    rw [← eT] at i1 i2 i3 i4 i5
    by_cases hb : S.2.1 14 n = nI e ∧ sel n = true
    · rw [if_pos hb, if_pos hb]
      obtain ⟨f1, f2, f3, f4⟩ := enc_f T e (S.2.1 12 n) s
      refine ⟨by rw [f1, i1]; omega, by rw [f2, i2], ?_, fun x y z => ?_, fun h t h1 h2 h3 => ?_⟩
      · rw [f3, i3, Int32.add_assoc, ← gh_inc]; rfl
      · rw [f4, i4]
        constructor
        · rintro ((h | ⟨i, h1, h2⟩) | h1)
          · exact Or.inl h
          · exact Or.inr ⟨i, by omega, h2⟩
          · exact Or.inr ⟨n, by omega, hb, h1⟩
        · rintro (h | ⟨i, h1, h2, h3⟩)
          · exact Or.inl (Or.inl h)
          · by_cases e9 : i = n
            · subst e9; exact Or.inr h3
            · exact Or.inl (Or.inr ⟨i, by omega, h2, h3⟩)
      · obtain ⟨k, hk, hk2⟩ := h3 n (by omega) hb.1
        rw [hk2, h1]
        exact enc_ord (i5 h t h1 h2 (fun i hi => h3 i (by omega))) e hk (by rw [i2]; exact h2)
    · rw [if_neg hb, if_neg hb]
      refine ⟨i1, i2, i3, fun x y z => ?_, fun h t h1 h2 h3 => i5 h t h1 h2 (fun i hi => h3 i (by omega))⟩
      rw [i4]
      constructor
      · rintro (h | ⟨i, h1, h2⟩)
        · exact Or.inl h
        · exact Or.inr ⟨i, by omega, h2⟩
      · rintro (h | ⟨i, h1, h2, h3⟩)
        · exact Or.inl h
        · by_cases e9 : i = n
          · subst e9; exact absurd h2 hb
          · exact Or.inr ⟨i, by omega, h2, h3⟩
/-! the reference's rules -/
theorem ru_mk (T : SR) (k a b x y z : Int32) : ruR (mkR T k a b) x y z ↔ ruR T x y z ∨ (k ≠ 0 ∧ k ≠ 1 ∧ z = nI (T.1 1) ∧ x = a ∧ ((k = 4 ∧ y = b) ∨ (k ≠ 4 ∧ y = -1))) := by
  have e0 : (mkR T k a b).1 1 = T.1 1 + 1 := by simp [mkR, ra, ri]
  have e7 : (mkR T k a b).1 7 = T.1 7 := by simp [mkR, ra, ri]
  have e2 : ∀ i, (mkR T k a b).2 2 i = if i = T.1 1 then k else T.2 2 i := fun i => by simp [mkR, ra, ri, upd]
  have e3 : ∀ i, (mkR T k a b).2 3 i = if i = T.1 1 then a else T.2 3 i := fun i => by simp [mkR, ra, ri, upd]
  have e4 : ∀ i, (mkR T k a b).2 4 i = if i = T.1 1 then b else T.2 4 i := fun i => by simp [mkR, ra, ri, upd]
  have e8 : (mkR T k a b).2 8 = T.2 8 := by simp [mkR, ra, ri]
  have e9 : (mkR T k a b).2 9 = T.2 9 := by simp [mkR, ra, ri]
  unfold ruR
  rw [e0, e7, e8, e9]
  constructor
  · rintro (⟨i, h1, h2, h3, h4, h5, h6⟩ | h)
    · rw [e2] at h2 h3 h6
      rw [e3] at h5
      rw [e4] at h6
      by_cases e : i = T.1 1
      · rw [if_pos e] at h2 h3 h5 h6
        rw [if_pos e] at h6
        exact Or.inr ⟨h2, h3, by rw [← e]; exact h4, h5, h6⟩
      · rw [if_neg e] at h2 h3 h5 h6
        rw [if_neg e] at h6
        exact Or.inl (Or.inl ⟨i, by omega, h2, h3, h4, h5, h6⟩)
    · exact Or.inl (Or.inr h)
  · rintro ((⟨i, h1, h2, h3, h4, h5, h6⟩ | h) | ⟨h2, h3, h4, h5, h6⟩)
    · have e : i ≠ T.1 1 := by omega
      refine Or.inl ⟨i, by omega, ?_, ?_, h4, ?_, ?_⟩
      · rw [e2, if_neg e]; exact h2
      · rw [e2, if_neg e]; exact h3
      · rw [e3, if_neg e]; exact h5
      · rw [e2, e4, if_neg e, if_neg e]; exact h6
    · exact Or.inr h
    · refine Or.inl ⟨T.1 1, by omega, ?_, ?_, h4, ?_, ?_⟩
      · rw [e2, if_pos rfl]; exact h2
      · rw [e2, if_pos rfl]; exact h3
      · rw [e3, if_pos rfl]; exact h5
      · rw [e2, e4, if_pos rfl, if_pos rfl]; exact h6
theorem ru_en (T : SR) (a b c x y z : Int32) : ruR (enR T a b c) x y z ↔ ruR T x y z ∨ (x = a ∧ y = -1 ∧ z = b) := by
  have e0 : (enR T a b c).1 1 = T.1 1 := by simp [enR, ra, ri]
  have e7 : (enR T a b c).1 7 = T.1 7 + 1 := by simp [enR, ra, ri]
  have e2 : ∀ f, f = 2 ∨ f = 3 ∨ f = 4 → (enR T a b c).2 f = T.2 f := fun f hf => (en_f T a b c).2.1 f (by omega) (by omega) (by omega) (by omega) (by omega)
  have e8 : ∀ i, (enR T a b c).2 8 i = if i = T.1 7 then a else T.2 8 i := fun i => by simp [enR, ra, ri, upd]
  have e9 : ∀ i, (enR T a b c).2 9 i = if i = T.1 7 then b else T.2 9 i := fun i => by simp [enR, ra, ri, upd]
  unfold ruR
  rw [e0, e7, e2 2 (by omega), e2 3 (by omega), e2 4 (by omega)]
  constructor
  · rintro (h | ⟨i, h1, h2, h3, h4⟩)
    · exact Or.inl (Or.inl h)
    · rw [e8] at h2
      rw [e9] at h3
      by_cases e : i = T.1 7
      · rw [if_pos e] at h2 h3; exact Or.inr ⟨h2, h4, h3⟩
      · rw [if_neg e] at h2 h3; exact Or.inl (Or.inr ⟨i, by omega, h2, h3, h4⟩)
  · rintro ((h | ⟨i, h1, h2, h3, h4⟩) | ⟨h2, h3, h4⟩)
    · exact Or.inl h
    · have e : i ≠ T.1 7 := by omega
      exact Or.inr ⟨i, by omega, by rw [e8, if_neg e]; exact h2, by rw [e9, if_neg e]; exact h3, h4⟩
    · exact Or.inr ⟨T.1 7, by omega, by rw [e8, if_pos rfl]; exact h2, by rw [e9, if_pos rfl]; exact h4, h3⟩
/-- what was sent stays -/
def enx (X T : SR) : Prop := X.1 7 ≤ T.1 7 ∧ ∀ f, 8 ≤ f → f ≤ 11 → ∀ k, k < X.1 7 → T.2 f k = X.2 f k
theorem enx.rf {X : SR} : enx X X := ⟨Nat.le_refl _, fun _ _ _ _ _ => rfl⟩
theorem enx.trans {X Y T : SR} (h : enx X Y) (h1 : enx Y T) : enx X T := ⟨Nat.le_trans h.1 h1.1, fun f k1 k2 k hk => (h1.2 f k1 k2 k (Nat.lt_of_lt_of_le hk h.1)).trans (h.2 f k1 k2 k hk)⟩
theorem enx.sm {X T : SR} (h7 : T.1 7 = X.1 7) (h : ∀ f, 8 ≤ f → f ≤ 11 → T.2 f = X.2 f) : enx X T := ⟨by rw [h7]; exact Nat.le_refl _, fun f k1 k2 k _ => by rw [h f k1 k2]⟩
theorem enx_en (T : SR) (a b c : Int32) : enx T (enR T a b c) ∧ (enR T a b c).2 8 (T.1 7) = a ∧ (enR T a b c).2 9 (T.1 7) = b ∧ (enR T a b c).2 10 (T.1 7) = nI (T.1 12) ∧ (enR T a b c).2 11 (T.1 7) = c ∧ (enR T a b c).2 20 = upd (T.2 20) (T.1 12) (T.2 20 (T.1 12) + 1) := by
  refine ⟨⟨by simp [enR, ra, ri], fun f k1 k2 k hk => ?_⟩, by simp [enR, ra, ri, upd], by simp [enR, ra, ri, upd], by simp [enR, ra, ri, upd], by simp [enR, ra, ri, upd], by simp [enR, ra, ri]⟩
  have hf : f = 8 ∨ f = 9 ∨ f = 10 ∨ f = 11 := by omega
  have hk2 : k ≠ T.1 7 := by omega
  rcases hf with h | h | h | h <;> subst h <;> simp [enR, ra, ri, upd, hk2]
def scN (X : SR) (e : Nat) (L : List Nat) : Nat := (L.filter (fun r => decide (¬ rsk X e r))).length
theorem sn_A (e v : Nat) (s : Int32) : ∀ (L : List Nat) (X : SR), X.1 12 = e → (snR X e v s L).1 7 = X.1 7 + scN X e L ∧ (snR X e v s L).2 20 e = X.2 20 e + nI (scN X e L) ∧ (∀ x y z, ruR (snR X e v s L) x y z ↔ ruR X x y z ∨ ∃ r, r ∈ L ∧ ¬ rsk X e r ∧ x = rK X e r ∧ y = -1 ∧ z = s) ∧ enx X (snR X e v s L) ∧ (∀ r, r ∈ L → ¬ rsk X e r → ∃ k, k < (snR X e v s L).1 7 ∧ (snR X e v s L).2 8 k = rK X e r ∧ (snR X e v s L).2 10 k = nI e ∧ (snR X e v s L).2 11 k = nI v) ∧ og 1 e (X.2 20) ((snR X e v s L).2 20) := by
  intro L
  induction L with
  | nil =>
    intro X hE
    refine ⟨rfl, ?_, fun x y z => ⟨Or.inl, fun h => h.elim id (fun ⟨r, hr, _⟩ => by simp at hr)⟩, enx.rf, fun r hr => by simp at hr, og.rf⟩
    show X.2 20 e = X.2 20 e + nI 0
    rw [show nI 0 = 0 from rfl, Int32.add_zero]
  | cons r L ih =>
    intro X hE
    obtain ⟨Y, eY⟩ : ∃ Y, Y = sn1 e v s X r := ⟨_, rfl⟩
    have es : snR X e v s (r :: L) = snR Y e v s L := by rw [eY]; rfl
    have hf := sn1_f e v s X r
    rw [← eY] at hf
    have hE2 : Y.1 12 = e := (hf.1 12 (by decide)).trans hE
    have y19 : Y.2 19 = X.2 19 := hf.2.1 19 (by decide) (by decide) (by decide) (by decide) (by decide)
    have y22 : rK Y e = rK X e := by funext w; simp only [rK]; rw [hf.2.1 22 (by decide) (by decide) (by decide) (by decide) (by decide)]
    have ysk : ∀ q, rsk Y e q ↔ rsk X e q := fun q => by unfold rsk; rw [y19]
    obtain ⟨j1, j2, j3, j4, j5, j6⟩ := ih Y hE2
    rw [es]
    have esc : scN Y e L = scN X e L := by unfold scN; congr 1; exact List.filter_congr (fun q _ => by simp [ysk q])
    rw [esc] at j1 j2
    by_cases hk : rsk X e r
    · have yx : Y = X := by rw [eY]; unfold sn1; rw [if_pos hk]
      rw [yx] at j1 j2 j3 j4 j5 j6 ⊢
      have ec : scN X e (r :: L) = scN X e L := by unfold scN; rw [List.filter_cons, if_neg (by simp [hk])]
      rw [ec]
      refine ⟨j1, j2, fun x y z => ?_, j4, fun q hq hnk => ?_, j6⟩
      · rw [j3]
        constructor
        · rintro (h | ⟨q, h1, h2⟩)
          · exact Or.inl h
          · exact Or.inr ⟨q, by simp [h1], h2⟩
        · rintro (h | ⟨q, h1, h2, h3⟩)
          · exact Or.inl h
          · rcases List.mem_cons.mp h1 with h9 | h9
            · subst h9; exact absurd hk h2
            · exact Or.inr ⟨q, h9, h2, h3⟩
      · rcases List.mem_cons.mp hq with h9 | h9
        · subst h9; exact absurd hk hnk
        · exact j5 q h9 hnk
    · have yx : Y = enR X (rK X e r) s (nI v) := by rw [eY]; unfold sn1; rw [if_neg hk]
      obtain ⟨n1, n2, n3, n4, n5, n6⟩ := enx_en X (rK X e r) s (nI v)
      rw [← yx] at n1 n2 n3 n4 n5 n6
      have n7 : Y.1 7 = X.1 7 + 1 := by rw [yx]; exact (en_f X (rK X e r) s (nI v)).2.2
      have ec : scN X e (r :: L) = scN X e L + 1 := by unfold scN; rw [List.filter_cons, if_pos (by simp [hk]), List.length_cons]
      rw [ec]
      rw [hE] at n6
      refine ⟨by rw [j1, n7]; omega, ?_, fun x y z => ?_, n1.trans j4, fun q hq hnk => ?_, ?_⟩
      · rw [j2, n6]
        simp only [upd, if_true]
        rw [Int32.add_assoc, Int32.add_comm 1, ← gh_inc]; rfl
      · rw [j3, yx, ru_en]
        have e9 : rK (enR X (rK X e r) s (nI v)) e = rK X e := by rw [← yx]; exact y22
        rw [e9]
        constructor
        · rintro ((h | h) | ⟨q, h1, h2, h3⟩)
          · exact Or.inl h
          · exact Or.inr ⟨r, by simp, hk, h⟩
          · exact Or.inr ⟨q, by simp [h1], fun h9 => h2 (by rw [← yx]; exact (ysk q).mpr h9), h3⟩
        · rintro (h | ⟨q, h1, h2, h3⟩)
          · exact Or.inl (Or.inl h)
          · rcases List.mem_cons.mp h1 with h9 | h9
            · subst h9; exact Or.inl (Or.inr h3)
            · exact Or.inr ⟨q, h9, fun h8 => h2 ((ysk q).mp (by rw [yx]; exact h8)), h3⟩
      · rcases List.mem_cons.mp hq with h9 | h9
        · subst h9
          refine ⟨X.1 7, by have := j4.1; omega, ?_, ?_, ?_⟩
          · rw [j4.2 8 (by decide) (by decide) _ (by omega)]; exact n2
          · rw [j4.2 10 (by decide) (by decide) _ (by omega), n4, hE]
          · rw [j4.2 11 (by decide) (by decide) _ (by omega)]; exact n5
        · obtain ⟨k, k1, k2, k3, k4⟩ := j5 q h9 (fun h8 => hnk ((ysk q).mp h8))
          exact ⟨k, k1, by rw [k2, y22], k3, k4⟩
      · refine og.trans ?_ j6
        rw [n6]; exact og.rf.u1
theorem nd_len : ∀ (L M : List Nat), L.Nodup → (∀ x, x ∈ L → x ∈ M) → L.length ≤ M.length := by
  intro L
  induction L with
  | nil => exact fun M _ _ => Nat.zero_le _
  | cons x L ih =>
    intro M hn hs
    have hx := hs x (by simp)
    rw [List.nodup_cons] at hn
    have h1 := ih (M.erase x) hn.2 (fun y hy => (List.mem_erase_of_ne (fun e => hn.1 (by rw [← e]; exact hy))).mpr (hs y (by simp [hy])))
    rw [List.length_erase_of_mem hx] at h1
    have h2 : 0 < M.length := List.length_pos_of_mem hx
    rw [List.length_cons]
    omega
theorem nd_eq {L M : List Nat} (h1 : L.Nodup) (h2 : M.Nodup) (h : ∀ x, x ∈ L ↔ x ∈ M) : L.length = M.length :=
  Nat.le_antisymm (nd_len L M h1 (fun x hx => (h x).mp hx)) (nd_len M L h2 (fun x hx => (h x).mpr hx))
