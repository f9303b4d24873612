/-! every package that was used in a commit is told once on the path -/
def pkU (S : SC) (T : SR) (e a : Nat) : Nat → Nat → Nat
  | 0, _ => 0
  | h + 1, n => if rsv (rK T e) (rU T e) h (sdn a h) = [] then pkU S T e a h n else pkU S T e a h n + pcN S e (selH S h (sdn a h)) n
theorem pkU_T (S : SC) (T : SR) (e a : Nat) : ∀ h, pkT S T e a h = pkU S T e a h (sP S) := by
  intro h
  induction h with
  | zero => rfl
  | succ h ih => simp only [pkT, pkU]; rw [ih]
theorem pkU_s (S : SC) (T : SR) (e a n : Nat) (j0 : Nat) (hs : S.2.1 14 n = nI e → rsv (rK T e) (rU T e) j0 (sdn a j0) ≠ [] ∧ ∀ j, j < 4 → (selH S j (sdn a j) n = true ↔ j = j0)) : ∀ h, h ≤ 4 → pkU S T e a h (n + 1) = pkU S T e a h n + if S.2.1 14 n = nI e ∧ j0 < h then 1 else 0 := by
  intro h
  induction h with
  | zero => intro _; simp [pkU]
  | succ h ih =>
    intro hh
    have ih := ih (by omega)
    simp only [pkU]
    have ep : pcN S e (selH S h (sdn a h)) (n + 1) = if S.2.1 14 n = nI e ∧ selH S h (sdn a h) n = true then pcN S e (selH S h (sdn a h)) n + 1 else pcN S e (selH S h (sdn a h)) n := rfl
    rw [ep, ih]
    by_cases hu : S.2.1 14 n = nI e
    · obtain ⟨h1, h2⟩ := hs hu
      have h3 := h2 h (by omega)
      by_cases hr : rsv (rK T e) (rU T e) h (sdn a h) = []
      · have q0 : h ≠ j0 := fun q => by subst q; exact h1 hr
        by_cases q : j0 < h
        · have q1 : j0 < h + 1 := by omega
          simp [hr, hu, q, q1]
        · have q1 : ¬ j0 < h + 1 := by omega
          simp [hr, hu, q, q1]
      · by_cases q : h = j0
        · have s1 := h3.mpr q
          have q1 : ¬ j0 < h := by omega
          have q2 : j0 < h + 1 := by omega
          simp [hr, hu, s1, q1, q2]; omega
        · have s1 : ¬ selH S h (sdn a h) n = true := fun w => q (h3.mp w)
          by_cases q3 : j0 < h
          · have q2 : j0 < h + 1 := by omega
            simp [hr, hu, s1, q3, q2]; omega
          · have q2 : ¬ j0 < h + 1 := by omega
            simp [hr, hu, s1, q3, q2]
    · simp [hu]
theorem pk_sum {S : SC} {T : SR} {e a D N0 : Nat} {X : SC} {Y : SR} {p : Int32} (h : PH S T e a D N0) (hA : PA S T e a D N0 D X Y p) (hu : ∀ i l, i < T.1 35 → T.2 39 i = nI e → l < 16 → T.2 40 i = nI l → a ≠ l ∧ rK T e (2 * l) ≠ -1) : pkT S T e a D = pcN S e (fun _ => true) (sP S) ∧ ∀ i, i < T.1 35 → T.2 39 i = nI e → ∃ l, l < 16 ∧ T.2 40 i = nI l ∧ lowc D (Y.2 16 e) l = some (mt a l - 1) ∧ rsv (rK T e) (rU T e) (mt a l - 1) (sdn a (mt a l - 1)) ≠ [] ∧ mt a l ≤ D ∧ 1 ≤ mt a l ∧ ∀ j, j < 4 → (pn l j = sdn a j ↔ j = mt a l - 1) := by
  have h0 := h
  obtain ⟨⟨ha, haD, he⟩, -, hTI, -, -, -, -, -, -, -, -, -, ⟨hp0, hpk⟩, -⟩ := h
  have hD4 := hTI.1
  have fact : ∀ i, i < T.1 35 → T.2 39 i = nI e → ∃ l, l < 16 ∧ T.2 40 i = nI l ∧ lowc D (Y.2 16 e) l = some (mt a l - 1) ∧ rsv (rK T e) (rU T e) (mt a l - 1) (sdn a (mt a l - 1)) ≠ [] ∧ mt a l ≤ D ∧ 1 ≤ mt a l ∧ ∀ j, j < 4 → (pn l j = sdn a j ↔ j = mt a l - 1) := fun i hi h39 => by
    obtain ⟨-, -, -, h4⟩ := hpk i hi
    obtain ⟨-, l, hl, hl40⟩ := h4 h39
    obtain ⟨hne, hk⟩ := hu i l hi h39 hl hl40
    obtain ⟨q1, q2, q3⟩ := lc_path h0 hA hl hne hk
    have hm := mt_b a ha l hl
    refine ⟨l, hl, hl40, q1, q2, q3, hm.1, fun j hj => ⟨fun q => ?_, fun q => ?_⟩⟩
    · have := mt_j a ha l hl hne j hj q; omega
    · rw [q]; exact (mt_s a ha l hl hne).symm
  refine ⟨?_, fact⟩
  rw [pkU_T]
  have key : ∀ n, n ≤ sP S → pkU S T e a D n = pcN S e (fun _ => true) n := by
    intro n
    induction n with
    | zero =>
      intro _
      have : ∀ h, pkU S T e a h 0 = 0 := fun h => by
        induction h with
        | zero => rfl
        | succ h ih => simp only [pkU, pcN]; rw [ih]; by_cases q : rsv (rK T e) (rU T e) h (sdn a h) = [] <;> simp [q]
      exact this D
    | succ n ih =>
      intro hn
      have ih := ih (by omega)
      have ep : pcN S e (fun _ => true) (n + 1) = if S.2.1 14 n = nI e ∧ (fun _ => true) n = true then pcN S e (fun _ => true) n + 1 else pcN S e (fun _ => true) n := rfl
      obtain ⟨g1, g2, -, g4⟩ := hpk n (by omega)
      by_cases hu9 : S.2.1 14 n = nI e
      · obtain ⟨l, hl, hl40, -, q2, q3, q4, q5⟩ := fact n (by omega) (by rw [← g1]; exact hu9)
        have h15 := (g4 (by rw [← g1]; exact hu9)).1
        rw [pkU_s S T e a n (mt a l - 1) (fun _ => ⟨q2, fun j hj => by unfold selH; rw [h15, hl40, nI_clamp (by omega), decide_eq_true_eq]; exact q5 j hj⟩) D hD4, if_pos ⟨hu9, by omega⟩, ep, if_pos ⟨hu9, rfl⟩, ih]
      · rw [pkU_s S T e a n 0 (fun q => absurd q hu9) D hD4, if_neg (fun q => hu9 q.1), ep, if_neg (fun q => hu9 q.1), ih]; rfl
  exact key (sP S) (Nat.le_refl _)
theorem wcN_2 {S : SC} {T : SR} {e D : Nat} : ∀ n, (∀ i, i < n → S.2.1 14 i = T.2 39 i) → (∀ i, i < n → T.2 39 i = nI e → (wlc T e D i).isSome = true) → wcN T e D n = 2 * pcN S e (fun _ => true) n := by
  intro n
  induction n with
  | zero => exact fun _ _ => rfl
  | succ n ih =>
    intro h1 h2
    have ih := ih (fun i hi => h1 i (by omega)) (fun i hi => h2 i (by omega))
    simp only [wcN, pcN]
    rw [h1 n (by omega)]
    by_cases hu : T.2 39 n = nI e
    · rw [if_pos hu, if_pos (h2 n (by omega) hu), if_pos ⟨hu, trivial⟩, ih]; omega
    · rw [if_neg hu, if_neg (fun q => hu q.1)]; exact ih
theorem wcN_1 {S : SC} {T : SR} {e D : Nat} : ∀ n, (∀ i, i < n → S.2.1 14 i = T.2 39 i) → (∀ i, i < n → wlc T e D i = none) → wcN T e D n = pcN S e (fun _ => true) n := by
  intro n
  induction n with
  | zero => exact fun _ _ => rfl
  | succ n ih =>
    intro h1 h2
    have ih := ih (fun i hi => h1 i (by omega)) (fun i hi => h2 i (by omega))
    simp only [wcN, pcN]
    rw [h1 n (by omega), h2 n (by omega)]
    by_cases hu : T.2 39 n = nI e
    · simp [hu, ih]
    · simp [hu, ih]
/-- what a commit ends in, but for the members -/
def CF (S : SC) (R : SR) (e D : Nat) (S3 S5 : SC) (T6 T9 : SR) : Prop :=
  (sN S5 = T9.1 1 ∧ R.1 1 + 3 ≤ T9.1 1 ∧ T9.1 1 ≤ R.1 1 + 13) ∧ (T9.1 7 ≤ R.1 7 + 26 + 2 * pcN S3 e (fun _ => true) (sP S3) ∧ sR S5 ≤ T9.1 1 + T9.1 7) ∧ TE S5 T9 e e D ∧ TI D (rK T9 e) (rU T9 e) ∧ (∃ s, T9.1 1 = s + 1 ∧ S5.2.1 5 e = nI s ∧ T9.2 14 e = nI s ∧ T9.2 2 s = 5) ∧ (S5.2.1 6 e = T9.2 16 e ∧ S5.2.1 10 e = T9.2 20 e) ∧ (∀ x y z, ruC S5 x y z ↔ ruR T9 x y z) ∧ ordC S5 ∧ wfF T9 ∧ wfS T9 ∧ enx R T9 ∧ (∀ k, R.1 1 ≤ k → k < T9.1 1 → T9.2 2 k ≠ 0) ∧ ∀ f, f = 2 ∨ f = 3 ∨ f = 4 → ∀ k, k < R.1 1 → T9.2 f k = R.2 f k
