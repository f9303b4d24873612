/-! THE CLASS'S REMOVES AND UPDATES, closed -/
def hitI (M : Int32) (D i v : Nat) : Bool := (List.range i).any (fun l => tb M l && pth l (D + 1) v)
theorem hit_iff {M : Int32} {D i v : Nat} : hitI M D i v = true ↔ ∃ l, l < i ∧ tb M l = true ∧ pth l (D + 1) v = true := by
  unfold hitI
  rw [List.any_eq_true]
  constructor
  · rintro ⟨l, h1, h2⟩; rw [Bool.and_eq_true] at h2; exact ⟨l, List.mem_range.mp h1, h2⟩
  · rintro ⟨l, h1, h2⟩; exact ⟨l, List.mem_range.mpr h1, by rw [Bool.and_eq_true]; exact h2⟩
theorem hit_or {M : Int32} {D a v : Nat} (ha : a < 16) : hitI (M ||| bitN a) D 16 v = (hitI M D 16 v || pth a (D + 1) v) := by
  rw [Bool.eq_iff_iff, hit_iff, Bool.or_eq_true, hit_iff]
  constructor
  · rintro ⟨l, h1, h2, h3⟩
    rw [tb_or, tb_bit (by omega) (by omega), Bool.or_eq_true, decide_eq_true_eq] at h2
    rcases h2 with h2 | h2
    · exact Or.inl ⟨l, h1, h2, h3⟩
    · subst h2; exact Or.inr h3
  · rintro (⟨l, h1, h2, h3⟩ | h)
    · exact ⟨l, h1, by rw [tb_or, h2]; rfl, h3⟩
    · exact ⟨a, ha, by rw [tb_or, tb_bit (by omega) (by omega)]; simp, h⟩
theorem hit_0 (D i v : Nat) : hitI 0 D i v = false := by
  cases h : hitI 0 D i v with
  | false => rfl
  | true =>
    obtain ⟨l, -, h2, -⟩ := hit_iff.mp h
    rw [tb_0] at h2; cases h2
theorem hit_leaf {M : Int32} {D a : Nat} (hD : D ≤ 4) (ha : a < 16) : hitI M D 16 (2 * a) = tb M a := by
  rw [Bool.eq_iff_iff, hit_iff]
  constructor
  · rintro ⟨l, h1, h2, h3⟩
    obtain ⟨h, h4, h5⟩ := pth_iff.mp h3
    have := pn_lf l h1 h (by omega) a ha h5
    rw [← this.2]; exact h2
  · intro h
    exact ⟨a, ha, h, pth_iff.mpr ⟨0, by omega, pn_0 a⟩⟩
def mv (X : SC) (m : Nat) : Int32 × Int32 × Int32 × Int32 × Nat × (Nat → Int32) × (Nat → Int32) := (X.2.1 0 m, X.2.1 1 m, X.2.1 2 m, X.2.1 3 m, X.1 1 m, X.2.2 0 m, X.2.2 1 m)
def mvL (X : SC) (m : Nat) : Int32 × Int32 × Int32 × Int32 × Nat × (Nat → Int32) × (Nat → Int32) := (-1, -1, -1, X.2.1 3 m, 0, fl 5 (-1) (X.2.2 0 m), X.2.2 1 m)
theorem dm_o (X : SC) (a l : Nat) : (dmS X a).2.1 20 l = if l = a then -1 else X.2.1 20 l := by
  unfold dmS
  by_cases h : inn 16 (X.2.1 20 a) = true ∧ lat X (X.2.1 20 a).toNatClampNeg = true
  · rw [if_pos h]; simp [lvS, mbS, st1, st2, stN]
  · rw [if_neg h]; simp [st1]
theorem dm_m (X : SC) (a m : Nat) : mv (dmS X a) m = if (inn 16 (X.2.1 20 a) = true ∧ lat X (X.2.1 20 a).toNatClampNeg = true) ∧ m = (X.2.1 20 a).toNatClampNeg then mvL X m else mv X m := by
  unfold dmS
  by_cases h : inn 16 (X.2.1 20 a) = true ∧ lat X (X.2.1 20 a).toNatClampNeg = true
  · rw [if_pos h]
    by_cases e : m = (X.2.1 20 a).toNatClampNeg
    · rw [if_pos ⟨h, e⟩, e]; simp [mv, mvL, lvS, mbS, st1, st2, stN]
    · rw [if_neg (fun q => e q.2)]; simp [mv, lvS, mbS, st1, st2, stN, e]
  · rw [if_neg h, if_neg (fun q => h q.1)]; simp [mv, st1]
def rmP (S : SC) (e D j l : Nat) : Prop := S.2.1 17 j = 1 ∧ S.2.1 18 j = nI l ∧ nI l ≠ S.2.1 4 e ∧ l < 16 ∧ 2 * l < tW D ∧ S.2.2 2 e (2 * l) ≠ -1
def lft (S : SC) (M : Int32) (m : Nat) : Prop := lat S m = true ∧ ∃ l, l < 16 ∧ tb M l = true ∧ S.2.1 20 l = nI m
def rmA (S T : SC) (e D i : Nat) : Prop :=
  (∀ v, T.2.2 2 e v = if hitI (T.2.1 7 e) D 16 v = true then -1 else S.2.2 2 e v) ∧ (∀ v, T.2.2 3 e v = if hitI (T.2.1 7 e) D 16 v = true then -1 else S.2.2 3 e v) ∧ (∀ v, T.2.2 4 e v = if hitI (T.2.1 7 e) D 16 v = true then 0 else S.2.2 4 e v) ∧
  (∀ c f, f ≠ e → 2 ≤ c → T.2.2 c f = S.2.2 c f) ∧ (∀ f, f ≠ e → T.2.1 7 f = S.2.1 7 f) ∧
  (∀ l, l < 32 → (tb (T.2.1 7 e) l = true ↔ ∃ j, j < i ∧ rmP S e D j l)) ∧
  (∀ l, l < 16 → T.2.1 20 l = if tb (T.2.1 7 e) l = true then -1 else S.2.1 20 l) ∧
  ∀ m, m < 16 → (lft S (T.2.1 7 e) m → mv T m = mvL S m) ∧ (¬ lft S (T.2.1 7 e) m → mv T m = mv S m)
theorem rmL_A (S : SC) (e D : Nat) (hD4 : D ≤ 4) (hD : S.1 2 e = D) (n : Nat) (hab : ∀ j, j < n → S.2.1 17 j = 1 → ∃ b, b < 16 ∧ S.2.1 18 j = nI b) (h7 : S.2.1 7 e = 0) (how : ∀ l, l < 16 → S.2.1 20 l = -1 ∨ ∃ m, m < 16 ∧ S.2.1 20 l = nI m) (hoi : ∀ l k, l < 16 → k < 16 → S.2.1 20 l = S.2.1 20 k → S.2.1 20 l ≠ -1 → l = k) : ∀ i, i ≤ n → rmA S (rmL S e i) e D i := by
  intro i
  induction i with
  | zero =>
    intro _
    refine ⟨fun v => ?_, fun v => ?_, fun v => ?_, fun _ _ _ _ => rfl, fun _ _ => rfl, fun l hl => ?_, fun l hl => ?_, fun m hm => ⟨fun h => ?_, fun _ => rfl⟩⟩
    · rw [show (rmL S e 0).2.1 7 e = 0 from h7, hit_0]; rfl
    · rw [show (rmL S e 0).2.1 7 e = 0 from h7, hit_0]; rfl
    · rw [show (rmL S e 0).2.1 7 e = 0 from h7, hit_0]; rfl
    · rw [show (rmL S e 0).2.1 7 e = 0 from h7, tb_0]
      exact Iff.intro (fun h => nomatch h) (fun h => by obtain ⟨j, hj, -⟩ := h; exact absurd hj (Nat.not_lt_zero j))
    · rw [show (rmL S e 0).2.1 7 e = 0 from h7, tb_0]; rfl
    · rw [show (rmL S e 0).2.1 7 e = 0 from h7] at h
      obtain ⟨-, l, -, h2, -⟩ := h
      rw [tb_0] at h2; cases h2
  | succ i ih =>
    intro hi
    have hA := ih (by omega)
    have hq := rq_rmL S e i
    obtain ⟨T, eT⟩ : ∃ T, T = rmL S e i := ⟨_, rfl⟩
    have es : rmL S e (i + 1) = if rmQ T e i then rmD T e (T.2.1 18 i).toNatClampNeg else T := by rw [eT]; rfl
    rw [es]
    rw [← eT] at hA hq
    obtain ⟨a1, a2, a3, a4, a5, a6, a7, a8⟩ := hA
    have q17 : T.2.1 17 i = S.2.1 17 i := by rw [hq.2.2 17 (by decide) (by decide) (by decide)]
    have q18 : T.2.1 18 i = S.2.1 18 i := by rw [hq.2.2 18 (by decide) (by decide) (by decide)]
    have q4 : T.2.1 4 e = S.2.1 4 e := by rw [hq.2.2 4 (by decide) (by decide) (by decide)]
    have qD : T.1 2 e = D := by rw [hq.2.1]; exact hD
    have qE : sE T = sE S := by unfold sE; rw [hq.1]
    obtain ⟨M, eM⟩ : ∃ M, M = T.2.1 7 e := ⟨_, rfl⟩
    rw [← eM] at a1 a2 a3 a6 a7 a8
    have htk : ∀ b, b < 16 → S.2.1 18 i = nI b → (tk (T.1 2 e) (T.2.2 2 e) (2 * (T.2.1 18 i).toNatClampNeg) ≠ -1 ↔ 2 * b < tW D ∧ S.2.2 2 e (2 * b) ≠ -1 ∧ tb M b = false) := by
      intro b hb h18
      rw [q18, h18, nI_clamp (by omega), qD]
      unfold tk
      by_cases hw : 2 * b < tW D
      · rw [if_pos hw, a1, hit_leaf hD4 hb]
        cases tb M b with
        | true => simp
        | false => simp [hw]
      · rw [if_neg hw]; simp [hw]
    by_cases hQ : rmQ T e i
    · rw [if_pos hQ]
      obtain ⟨h1, h2, h3⟩ := hQ
      rw [q17] at h1
      obtain ⟨b, hb, h18⟩ := hab i (by omega) h1
      obtain ⟨k1, k2, k3⟩ := (htk b hb h18).mp h3
      rw [q18, h18, q4] at h2
      have hcl : (T.2.1 18 i).toNatClampNeg = b := by rw [q18, h18]; exact nI_clamp (by omega)
      rw [hcl]
      obtain ⟨X, eX⟩ : ∃ X, X = st1 (trS T e (bl b (T.1 2 e + 1) (-1) (T.2.2 2 e)) (bl b (T.1 2 e + 1) (-1) (T.2.2 3 e)) (bl b (T.1 2 e + 1) 0 (T.2.2 4 e))) 7 e (T.2.1 7 e ||| bitN b) := ⟨_, rfl⟩
      have eR : rmD T e b = dmS X b := by rw [eX]; rfl
      rw [eR]
      have hd := dq_dm X b
      have x7 : X.2.1 7 e = M ||| bitN b := by rw [eX, eM]; simp [st1]
      have n7 : (dmS X b).2.1 7 e = M ||| bitN b := by rw [hd.2.2.1 7 (by decide) (by decide)]; exact x7
      have x2 : X.2.2 2 e = bl b (D + 1) (-1) (T.2.2 2 e) := by rw [eX, qD]; simp [st1, trS, st2]
      have x3 : X.2.2 3 e = bl b (D + 1) (-1) (T.2.2 3 e) := by rw [eX, qD]; simp [st1, trS, st2]
      have x4 : X.2.2 4 e = bl b (D + 1) 0 (T.2.2 4 e) := by rw [eX, qD]; simp [st1, trS, st2]
      have x20 : X.2.1 20 = T.2.1 20 := by rw [eX]; funext j; simp [st1, trS, st2]
      have xm : ∀ m, mv X m = mv T m := fun m => by rw [eX]; simp [mv, st1, trS, st2]
      have xE : sE X = sE S := by rw [← qE, eX]; rfl
      have xl : ∀ m, lat X m = decide (T.2.1 0 m = nI (sE S - 1)) := fun m => by
        unfold lat; rw [xE, eX]; simp [st1, trS, st2]
      refine ⟨fun v => ?_, fun v => ?_, fun v => ?_, fun c f hf hc => ?_, fun f hf => ?_, fun l hl => ?_, fun l hl => ?_, fun m hm => ?_⟩
      · rw [n7, hd.2.2.2 2 (by decide), x2, hit_or hb]
        simp only [bl]
        rw [a1]
        cases hitI M D 16 v <;> cases pth b (D + 1) v <;> simp
      · rw [n7, hd.2.2.2 3 (by decide), x3, hit_or hb]
        simp only [bl]
        rw [a2]
        cases hitI M D 16 v <;> cases pth b (D + 1) v <;> simp
      · rw [n7, hd.2.2.2 4 (by decide), x4, hit_or hb]
        simp only [bl]
        rw [a3]
        cases hitI M D 16 v <;> cases pth b (D + 1) v <;> simp
      · rw [hd.2.2.2 c hc, ← a4 c f hf hc, eX]; simp [st1, trS, st2, hf]
      · rw [hd.2.2.1 7 (by decide) (by decide), ← a5 f hf, eX]; simp [st1, trS, st2, hf]
      · rw [n7, tb_or, tb_bit (by omega) hl, Bool.or_eq_true, a6 l hl, decide_eq_true_eq]
        constructor
        · rintro (⟨j, hj, h9⟩ | h9)
          · exact ⟨j, by omega, h9⟩
          · subst h9; exact ⟨i, by omega, h1, h18, h2, hb, k1, k2⟩
        · rintro ⟨j, hj, h9⟩
          by_cases e9 : j = i
          · subst e9
            right
            have := h9.2.1
            rw [h18] at this
            exact ((nI_eq (by omega) (by omega)).mp this).symm
          · exact Or.inl ⟨j, by omega, h9⟩
      · rw [n7, dm_o, x20, a7 l hl, tb_or, tb_bit (by omega) (by omega)]
        by_cases e9 : l = b
        · subst e9; simp
        · simp [e9]
      · rw [dm_m, n7, x20, a7 b hb, k3]
        simp only [Bool.false_eq_true, if_false]
        have lor : lft S (M ||| bitN b) m ↔ lft S M m ∨ (lat S m = true ∧ S.2.1 20 b = nI m) := by
          unfold lft
          constructor
          · rintro ⟨h5, l, h6, h7, h8⟩
            rw [tb_or, tb_bit (by omega) (by omega), Bool.or_eq_true, decide_eq_true_eq] at h7
            rcases h7 with h7 | h7
            · exact Or.inl ⟨h5, l, h6, h7, h8⟩
            · subst h7; exact Or.inr ⟨h5, h8⟩
          · rintro (⟨h5, l, h6, h7, h8⟩ | ⟨h5, h6⟩)
            · exact ⟨h5, l, h6, by rw [tb_or, h7]; rfl, h8⟩
            · exact ⟨h5, b, hb, by rw [tb_or, tb_bit (by omega) (by omega)]; simp, h6⟩
        rw [lor]
        have nol : S.2.1 20 b = nI m → ¬ lft S M m := fun h5 h6 => by
          obtain ⟨-, l, h7, h8, h9⟩ := h6
          have := hoi l b h7 hb (by rw [h9, h5]) (by rw [h9]; exact nI_ne1 (by omega))
          rw [this, k3] at h8; cases h8
        have xml : mvL X m = mvL T m := by
          have := xm m
          simp only [mv, Prod.mk.injEq] at this
          simp only [mvL, this.2.2.2.1, this.2.2.2.2.2.1, this.2.2.2.2.2.2]
        rw [xml, xm]
        by_cases ho : S.2.1 20 b = nI m
        · rw [ho, nI_clamp (by omega), xl]
          have h5 := (a8 m hm).2 (nol ho)
          have h6 : T.2.1 0 m = S.2.1 0 m := by
            have := congrArg (·.1) h5; exact this
          rw [h6]
          have e10 : decide (S.2.1 0 m = nI (sE S - 1)) = lat S m := rfl
          rw [e10]
          by_cases hla : lat S m = true
          · rw [if_pos ⟨⟨inn_n hm (by decide), hla⟩, rfl⟩]
            refine ⟨fun _ => ?_, fun h9 => absurd (Or.inr ⟨hla, rfl⟩) h9⟩
            simp only [mv, Prod.mk.injEq] at h5
            simp only [mvL, h5.2.2.2.1, h5.2.2.2.2.2.1, h5.2.2.2.2.2.2]
          · rw [if_neg (fun h9 => hla h9.1.2)]
            exact ⟨fun h9 => h9.elim (a8 m hm).1 (fun h9 => absurd h9.1 hla), fun _ => h5⟩
        · have hneg : ¬ ((inn 16 (S.2.1 20 b) = true ∧ lat X (S.2.1 20 b).toNatClampNeg = true) ∧ m = (S.2.1 20 b).toNatClampNeg) := fun h9 => by
            rcases how b hb with h10 | ⟨q, hq16, h10⟩
            · rw [h10] at h9; exact absurd h9.1.1 (by decide)
            · rw [h10, nI_clamp (by omega)] at h9
              exact ho (by rw [h10, h9.2])
          rw [if_neg hneg]
          exact ⟨fun h9 => h9.elim (a8 m hm).1 (fun h9 => absurd h9.2 ho), fun h9 => (a8 m hm).2 (fun h10 => h9 (Or.inl h10))⟩
    · rw [if_neg hQ]
      refine ⟨by rw [← eM]; exact a1, by rw [← eM]; exact a2, by rw [← eM]; exact a3, a4, a5, fun l hl => ?_, by rw [← eM]; exact a7, by rw [← eM]; exact a8⟩
      rw [← eM, a6 l hl]
      constructor
      · rintro ⟨j, hj, h9⟩; exact ⟨j, by omega, h9⟩
      · rintro ⟨j, hj, h9⟩
        by_cases e9 : j = i
        · subst e9
          obtain ⟨g1, g2, g3, g4, g5, g6⟩ := h9
          have h8 := htk l g4 g2
          by_cases h10 : tb M l = true
          · exact (a6 l hl).mp h10
          · exact absurd ⟨by rw [q17]; exact g1, by rw [q18, g2, q4]; exact g3, h8.mpr ⟨g5, g6, by simpa using h10⟩⟩ hQ
        · exact ⟨j, by omega, h9⟩
