/-! J BEHIND COMPROMISE -/
theorem tk_f (L : List Int32) : ∀ T : SR, tkR T L = ra T 5 ((tkR T L).2 5) ∧ ∀ k, k < 2147483648 → (∀ s, s ∈ L → ∃ j, j < 2600 ∧ s = nI j) → (tkR T L).2 5 k = if nI k ∈ L then 1 else T.2 5 k := by
  induction L with
  | nil =>
    intro T
    refine ⟨sr_ext (fun _ => rfl) (fun f => ?_), fun k _ _ => by simp [tkR]⟩
    by_cases q : f = 5
    · subst q; simp [ra]
    · simp [ra, q, tkR]
  | cons a L ih =>
    intro T
    have e : tkR T (a :: L) = tkR (ra T 5 (upd (T.2 5) a.toNatClampNeg 1)) L := rfl
    rw [e]
    obtain ⟨h1, h2⟩ := ih (ra T 5 (upd (T.2 5) a.toNatClampNeg 1))
    refine ⟨?_, fun k hk hs => ?_⟩
    · conv => lhs; rw [h1]
      refine sr_ext (fun _ => rfl) (fun f => ?_)
      by_cases q : f = 5
      · subst q; simp [ra]
      · simp [ra, q]
    · rw [h2 k hk (fun s q => hs s (List.mem_cons_of_mem _ q))]
      obtain ⟨j, j1, j2⟩ := hs a List.mem_cons_self
      by_cases q : nI k ∈ L
      · rw [if_pos q, if_pos (List.mem_cons_of_mem _ q)]
      · rw [if_neg q]
        by_cases z : k = j
        · subst z
          rw [if_pos (by rw [j2]; exact List.mem_cons_self)]
          simp [ra, upd, j2, nI_clamp (show k < 2147483648 by omega)]
        · rw [if_neg (fun w => by
            rcases List.mem_cons.mp w with w | w
            · rw [j2] at w; exact z ((nI_eq (by omega) (by omega)).mp w)
            · exact q w)]
          simp [ra, upd, j2, nI_clamp (show j < 2147483648 by omega), z]
theorem lrn_f (n : Nat) (hn : n ≤ 2600) (L : List Int32) : ∀ o : Nat → Int32, (∀ s, s ∈ L → ∃ j, j < n ∧ s = nI j) → ∀ k, k < 2147483648 → lrnL n L o k = if nI k ∈ L then 1 else o k := by
  induction L with
  | nil => intro o _ k _; simp [lrnL]
  | cons a L ih =>
    intro o hs k hk
    have e : lrnL n (a :: L) o = lrnL n L (lrn n o a) := rfl
    rw [e, ih _ (fun s q => hs s (List.mem_cons_of_mem _ q)) k hk]
    obtain ⟨j, j1, j2⟩ := hs a List.mem_cons_self
    by_cases q : nI k ∈ L
    · rw [if_pos q, if_pos (List.mem_cons_of_mem _ q)]
    · rw [if_neg q]
      have hi : inn n a = true := by rw [j2]; exact inn_n j1 (by omega)
      unfold lrn
      rw [if_pos hi]
      by_cases z : k = j
      · subst z
        rw [if_pos (by rw [j2]; exact List.mem_cons_self)]
        simp [upd, j2, nI_clamp (show k < 2147483648 by omega)]
      · rw [if_neg (fun w => by
          rcases List.mem_cons.mp w with w | w
          · rw [j2] at w; exact z ((nI_eq (by omega) (by omega)).mp w)
          · exact q w)]
        simp [upd, j2, nI_clamp (show j < 2147483648 by omega), z]
theorem j_tk {S : SC} {R : SR} (h : J S R) (hok : okC S) (hN26 : R.1 1 ≤ 2600) (L M : List Int32) (hL : ∀ s, s ∈ L → ∃ k, k < R.1 1 ∧ s = nI k) (hM : ∀ s, s ∈ M ↔ s ∈ L) : J (spV (sv1 S 21 (lrnL (sN S) M (S.2.1 21))) 0) (tkR R L) := by
  obtain ⟨hN, hZ, hX, hT, hMM, hK, hP, hL9, ⟨w1, w2, w3, ⟨w4, w5, w6⟩, w7⟩, ⟨hru, hor, hout⟩, hH, hF⟩ := h
  have c1 : sN S = R.1 1 := hN.2.2.2.1.1
  have c2 : 3 ≤ R.1 1 := hN.2.2.2.1.2.1
  obtain ⟨e1, e2⟩ := tk_f L R
  have e2 := fun k hk => e2 k hk (fun s q => by obtain ⟨j, j1, j2⟩ := hL s q; exact ⟨j, by omega, j2⟩)
  have e3 := lrn_f (sN S) (by omega) M (S.2.1 21) (fun s q => by rw [c1]; exact hL s ((hM s).mp q))
  obtain ⟨o1, o2, o3, o4, o5⟩ := hok
  obtain ⟨t, et⟩ : ∃ t, t = (tkR R L).2 5 := ⟨_, rfl⟩
  obtain ⟨o, eo⟩ : ∃ o, o = lrnL (sN S) M (S.2.1 21) := ⟨_, rfl⟩
  rw [← et] at e1 e2
  rw [← eo] at e3 ⊢
  rw [e1]
  have hcl := (clR_ru (by omega) w1 w2 w4 (by omega) w7 (KnR R)).mp (KnR_cl R)
  have big : ∀ k, 2147483648 ≤ k → o k = 0 := fun k hk => by
    have : ∀ (L : List Int32) (o : Nat → Int32), (∀ s, s ∈ L → ∃ j, j < sN S ∧ s = nI j) → lrnL (sN S) L o k = o k := by
      intro L
      induction L with
      | nil => intro o _; rfl
      | cons a L ih =>
        intro o hs
        have e : lrnL (sN S) (a :: L) o = lrnL (sN S) L (lrn (sN S) o a) := rfl
        rw [e, ih _ (fun s q => hs s (List.mem_cons_of_mem _ q))]
        obtain ⟨j, j1, j2⟩ := hs a List.mem_cons_self
        unfold lrn
        split
        · simp [upd, j2, nI_clamp (show j < 2147483648 by omega), show k ≠ j by omega]
        · rfl
    rw [eo, this _ _ (fun s q => by rw [c1]; exact hL s ((hM s).mp q))]
    exact o4 k (by omega)
  have tk01 : ∀ k, t k = 0 ∨ t k = 1 := fun k => by
    by_cases hk : k < 2147483648
    · rw [e2 k hk]; split
      · exact Or.inr rfl
      · exact w5 k
    · have : ∀ (L : List Int32) (T : SR), (∀ s, s ∈ L → ∃ j, j < 2600 ∧ s = nI j) → (tkR T L).2 5 k = T.2 5 k := by
        intro L
        induction L with
        | nil => intro T _; rfl
        | cons a L ih =>
          intro T hs
          have e : tkR T (a :: L) = tkR (ra T 5 (upd (T.2 5) a.toNatClampNeg 1)) L := rfl
          rw [e, ih _ (fun s q => hs s (List.mem_cons_of_mem _ q))]
          obtain ⟨j, j1, j2⟩ := hs a List.mem_cons_self
          simp [ra, upd, j2, nI_clamp (show j < 2147483648 by omega), show k ≠ j by omega]
      rw [et, this _ _ (fun s q => by obtain ⟨j, j1, j2⟩ := hL s q; exact ⟨j, by omega, j2⟩)]
      exact w5 k
  have tkz : ∀ k, R.1 1 ≤ k → t k = 0 := fun k hk9 => by
    by_cases hk : k < 2147483648
    · rw [e2 k hk, if_neg (fun q => by
        obtain ⟨j, j1, j2⟩ := hL _ q
        have := (nI_eq (by omega) (by omega)).mp j2; omega)]
      exact w6 k hk9
    · have : ∀ (L : List Int32) (T : SR), (∀ s, s ∈ L → ∃ j, j < 2600 ∧ s = nI j) → (tkR T L).2 5 k = T.2 5 k := by
        intro L
        induction L with
        | nil => intro T _; rfl
        | cons a L ih =>
          intro T hs
          have e : tkR T (a :: L) = tkR (ra T 5 (upd (T.2 5) a.toNatClampNeg 1)) L := rfl
          rw [e, ih _ (fun s q => hs s (List.mem_cons_of_mem _ q))]
          obtain ⟨j, j1, j2⟩ := hs a List.mem_cons_self
          simp [ra, upd, j2, nI_clamp (show j < 2147483648 by omega), show k ≠ j by omega]
      rw [et, this _ _ (fun s q => by obtain ⟨j, j1, j2⟩ := hL s q; exact ⟨j, by omega, j2⟩)]
      exact w6 k hk9
  have low : ∀ k, o k = 1 → k < R.1 1 := fun k hk => by
    by_cases z : k < R.1 1
    · exact z
    · exfalso
      by_cases hk9 : k < 2147483648
      · rw [e3 k hk9, if_neg (fun q => by
          obtain ⟨j, j1, j2⟩ := hL _ ((hM _).mp q)
          have := (nI_eq (by omega) (by omega)).mp j2; omega), o4 k (by omega)] at hk
        exact absurd hk (by decide)
      · rw [big k (by omega)] at hk; exact absurd hk (by decide)
  have hp := kn_pass (S := S) (R := ra R 5 t) c1 hN26 (by show 1 ≤ R.1 1; omega) hru hor w1 w2 w4 w7 o (fun j => by
    by_cases hk : j < 2147483648
    · rw [e3 j hk]; split
      · exact Or.inr rfl
      · exact o3 j
    · exact Or.inl (big j (by omega))) (fun j hj => by
      have hj : R.1 1 ≤ j := hj
      by_cases hk : j < 2147483648
      · rw [e3 j hk, if_neg (fun q => by
          obtain ⟨i, j1, j2⟩ := hL _ ((hM _).mp q)
          have := (nI_eq (by omega) (by omega)).mp j2; omega)]
        exact o4 j (by omega)
      · exact big j (by omega)) (fun k hk => by
      have hk1 := low k hk
      rw [e3 k (by omega)] at hk
      by_cases q : nI k ∈ M
      · intro K hK
        refine hK.1 k hk1 ?_
        show t k ≠ 0
        rw [e2 k (by omega), if_pos ((hM _).mp q)]; decide
      · rw [if_neg q] at hk
        refine kn_mono (R := R) (T := ra R 5 t) (Nat.le_refl _) (fun f hf k _ => ?_) ⟨Nat.le_refl _, fun f h1 h2 k _ => ?_⟩ (fun j hj q => ?_) ((hout k hk1).mp hk)
        · rcases hf with rfl | rfl | rfl <;> rfl
        · simp [ra, show f ≠ 5 by omega]
        · show t j ≠ 0
          rw [e2 j (by omega)]; split
          · decide
          · exact q) (by
      rw [e3 0 (by omega)]; split
      · rfl
      · exact (hout 0 (by omega)).mpr hcl.1) (fun k hk q => by
      have hk : k < R.1 1 := hk
      have q : t k ≠ 0 := q
      rw [e2 k (by omega)] at q
      rw [e3 k (by omega)]
      by_cases z : nI k ∈ L
      · rw [if_pos ((hM _).mpr z)]
      · rw [if_neg z] at q
        rw [if_neg (fun w => z ((hM _).mp w))]
        exact (hout k hk).mpr (hcl.2.1 k hk q)) (f := 0) (Nat.zero_le _) (fun j hj => absurd hj (Nat.not_lt_zero _))
  exact ⟨hN, hZ, hX, hT, hMM, hK, hP, hL9, ⟨w1, w2, w3, ⟨w4, tk01, tkz⟩, w7⟩, ⟨hru, hor, hp⟩, hH, hF⟩
theorem j_cp {S : SC} {R : SR} (h : J S R) (hok : okC S) {m : Nat} (hm : m < 16) : J (cpS S m) (cpR R m (S.1 1 m)) := by
  have h1 : J S (ri R 0 0) := J_c h (fun f hf _ _ => by simp [ri, hf]) (fun f _ _ _ _ _ => rfl)
  obtain ⟨q1, q2, q3, q4, q5, q6, q7⟩ := j_held h1 hm
  have hg := gaR_f (ri R 0 0) m (S.1 1 m)
  have h2 : J S (gaR (ri R 0 0) m (S.1 1 m)) := J_c h1 (fun f _ hf _ => hg.1 f hf) (fun f _ hf _ _ _ => hg.2.1 f hf)
  have hN : R.1 1 ≤ 2600 := by
    obtain ⟨⟨⟨-, -, n3⟩, ⟨-, p2⟩, ⟨-, a4⟩, ⟨-, -, a7⟩, -⟩, -⟩ := h
    omega
  unfold cpS cpR
  refine j_tk h2 hok (by rw [hg.1 1 (by decide)]; exact hN) _ _ (fun s hs => ?_) (fun s => ?_)
  · rw [q3] at hs
    rw [hg.1 1 (by decide)]
    exact q6 s hs
  · rw [q3]; exact q4 s
