/-! THE CLASS'S UPDATES; THE REFERENCE'S REMOVES, SHRINKING AND UPDATES, closed -/
def pq (a h v : Nat) : Bool := (List.range h).any (fun j => pn a (j + 1) == v)
theorem pq_iff {a h v : Nat} : pq a h v = true ↔ ∃ j, j < h ∧ pn a (j + 1) = v := by
  unfold pq
  rw [List.any_eq_true]
  constructor
  · rintro ⟨j, h1, h2⟩; exact ⟨j, List.mem_range.mp h1, by simpa using h2⟩
  · rintro ⟨j, h1, h2⟩; exact ⟨j, List.mem_range.mpr h1, by simpa using h2⟩
theorem pth_s {a h v : Nat} : pth a (h + 1) v = (decide (v = 2 * a) || pq a h v) := by
  rw [Bool.eq_iff_iff, pth_iff, Bool.or_eq_true, pq_iff, decide_eq_true_eq]
  constructor
  · rintro ⟨j, h1, h2⟩
    cases j with
    | zero => rw [pn_0] at h2; exact Or.inl h2.symm
    | succ j => exact Or.inr ⟨j, by omega, h2⟩
  · rintro (h1 | ⟨j, h1, h2⟩)
    · exact ⟨0, by omega, by rw [pn_0]; exact h1.symm⟩
    · exact ⟨j + 1, by omega, h2⟩
theorem hgt_even : ∀ v, v < 31 → (v % 2 = 0 ↔ hgt v = 0) := by decide
theorem pq_odd {a h v : Nat} (ha : a < 16) (hh : h ≤ 4) (hv : v < 31) (he : v % 2 = 0) : pq a h v = false := by
  cases hq : pq a h v with
  | false => rfl
  | true =>
    obtain ⟨j, h1, h2⟩ := pq_iff.mp hq
    have h3 := hgt_pn (j + 1) (by omega) a ha
    rw [h2, (hgt_even v hv).mp he] at h3
    omega
theorem hit_s (M : Int32) (D i v : Nat) : hitI M D (i + 1) v = (hitI M D i v || (tb M i && pth i (D + 1) v)) := by
  unfold hitI
  rw [List.range_succ, List.any_append]
  simp
def upA (S T : SC) (e D : Nat) (M : Int32) (NK : Nat → Int32) : Prop :=
  T.2.1 8 e = M ∧ (∀ f, f ≠ e → T.2.1 8 f = S.2.1 8 f) ∧ (∀ c f, f ≠ e → T.2.2 c f = S.2.2 c f) ∧
  ∀ v, v < 31 → (T.2.2 2 e v = if v % 2 = 0 ∧ tb M (v / 2) = true then NK (v / 2) else if hitI M D 16 v = true then -1 else S.2.2 2 e v) ∧
    (T.2.2 3 e v = if v % 2 = 0 ∧ tb M (v / 2) = true then nI e else if hitI M D 16 v = true then -1 else S.2.2 3 e v) ∧
    (T.2.2 4 e v = if hitI M D 16 v = true then 0 else S.2.2 4 e v)
theorem upL_A (S : SC) (e D : Nat) (hD4 : D ≤ 4) (hD : S.1 2 e = D) (n : Nat) (M : Nat → Int32) (NK : Nat → Nat → Int32) (hM0 : M 0 = 0) (hst : ∀ i, i < n → (upQ S e i → ∃ b, b < 16 ∧ S.2.1 18 i = nI b ∧ M (i + 1) = M i ||| bitN b ∧ NK (i + 1) = upd (NK i) b (S.2.1 19 i)) ∧ (¬ upQ S e i → M (i + 1) = M i ∧ NK (i + 1) = NK i)) (h8 : S.2.1 8 e = 0) : ∀ i, i ≤ n → upA S (upL S e i) e D (M i) (NK i) := by
  intro i
  induction i with
  | zero =>
    intro _
    rw [hM0]
    refine ⟨h8, fun _ _ => rfl, fun _ _ _ => rfl, fun v hv => ?_⟩
    rw [hit_0, tb_0]
    simp [upL]
  | succ i ih =>
    intro hi
    obtain ⟨a1, a2, a3, a4⟩ := ih (by omega)
    have hu := uq_upL S e i
    obtain ⟨T, eT⟩ : ∃ T, T = upL S e i := ⟨_, rfl⟩
    have es : upL S e (i + 1) = if upQ T e i then upD T e (T.2.1 18 i).toNatClampNeg (T.2.1 19 i) else T := by rw [eT]; rfl
    rw [es]
    rw [← eT] at a1 a2 a3 a4 hu
    have q17 : T.2.1 17 i = S.2.1 17 i := by rw [hu.2.1 17 (by decide)]
    have q18 : T.2.1 18 i = S.2.1 18 i := by rw [hu.2.1 18 (by decide)]
    have q19 : T.2.1 19 i = S.2.1 19 i := by rw [hu.2.1 19 (by decide)]
    have q4 : T.2.1 4 e = S.2.1 4 e := by rw [hu.2.1 4 (by decide)]
    have q7 : T.2.1 7 e = S.2.1 7 e := by rw [hu.2.1 7 (by decide)]
    have qD : T.1 2 e = D := by rw [hu.1]; exact hD
    have hqq : upQ T e i ↔ upQ S e i := by unfold upQ; rw [q17, q18, q4, q7]
    by_cases hQ : upQ T e i
    · rw [if_pos hQ]
      obtain ⟨b, hb, h18, k1, k2⟩ := (hst i (by omega)).1 (hqq.mp hQ)
      have hcl : (T.2.1 18 i).toNatClampNeg = b := by rw [q18, h18]; exact nI_clamp (by omega)
      rw [hcl, k1, k2, q19]
      refine ⟨by simp [upD, st1, a1], fun f hf => by rw [← a2 f hf]; simp [upD, gvS, trS, st1, st2, hf], fun c f hf => by rw [← a3 c f hf]; simp [upD, gvS, trS, st1, st2, hf], fun v hv => ?_⟩
      obtain ⟨g1, g2, g3⟩ := a4 v hv
      have x2 : (upD T e b (S.2.1 19 i)).2.2 2 e v = if v = 2 * b then S.2.1 19 i else if pth b (D + 1) v = true then -1 else T.2.2 2 e v := by
        simp [upD, gvS, trS, st1, st2, bl, upd, qD]
      have x3 : (upD T e b (S.2.1 19 i)).2.2 3 e v = if v = 2 * b then nI e else if pth b (D + 1) v = true then -1 else T.2.2 3 e v := by
        simp [upD, gvS, trS, st1, st2, bl, upd, qD]
      have x4 : (upD T e b (S.2.1 19 i)).2.2 4 e v = if v = 2 * b then 0 else if pth b (D + 1) v = true then 0 else T.2.2 4 e v := by
        simp [upD, gvS, trS, st1, st2, bl, upd, qD]
      rw [x2, x3, x4, g1, g2, g3, hit_or hb, pth_s]
      by_cases e1 : v = 2 * b
      · subst e1
        have t1 : tb (M i ||| bitN b) (2 * b / 2) = true := by rw [tb_or, tb_bit (by omega) (by omega)]; simp
        have t2 : (2 * b) % 2 = 0 := by omega
        have t3 : 2 * b / 2 = b := by omega
        rw [t3] at t1
        simp [t1, t3, upd]
      · by_cases e2 : v % 2 = 0
        · have h9 := pq_odd hb hD4 hv e2
          have h10 : v / 2 ≠ b := by omega
          have t1 : tb (M i ||| bitN b) (v / 2) = tb (M i) (v / 2) := by
            rw [tb_or, tb_bit (by omega) (by omega)]; simp [h10]
          rw [t1]
          simp [e1, e2, h9, upd, h10]
        · simp only [e2, false_and, if_false, e1, decide_false, Bool.false_or]
          cases hitI (M i) D 16 v <;> cases pq b D v <;> simp
    · rw [if_neg hQ]
      obtain ⟨k1, k2⟩ := (hst i (by omega)).2 (fun h => hQ (hqq.mpr h))
      rw [k1, k2]
      exact ⟨a1, a2, a3, a4⟩
/-! the reference's rows -/
def og (w e : Nat) (F F1 : Nat → Int32) : Prop := ∀ j, (j < w * e ∨ w * e + w ≤ j) → F1 j = F j
theorem og.rf {w e : Nat} {F : Nat → Int32} : og w e F F := fun _ _ => rfl
theorem og.trans {w e : Nat} {F G H : Nat → Int32} (h : og w e F G) (h1 : og w e G H) : og w e F H := fun j hj => (h1 j hj).trans (h j hj)
theorem og.up {w e v : Nat} {F G : Nat → Int32} {x : Int32} (h : og w e F G) (hv : v < w) : og w e F (upd G (w * e + v) x) := fun j hj => by
  rw [← h j hj]; simp only [upd]; rw [if_neg (by omega)]
theorem og.u1 {e : Nat} {F G : Nat → Int32} {x : Int32} (h : og 1 e F G) : og 1 e F (upd G e x) := fun j hj => by
  rw [← h j hj]; simp only [upd]; rw [if_neg (by omega)]
def rof (e : Nat) (T T1 : SR) : Prop := og 31 e (T.2 22) (T1.2 22) ∧ og 31 e (T.2 23) (T1.2 23) ∧ og 31 e (T.2 24) (T1.2 24) ∧ og 16 e (T.2 26) (T1.2 26) ∧ ∀ f, 13 ≤ f → f ≤ 21 → og 1 e (T.2 f) (T1.2 f)
theorem rof.rf {e : Nat} {T : SR} : rof e T T := ⟨og.rf, og.rf, og.rf, og.rf, fun _ _ _ => og.rf⟩
theorem rof.trans {e : Nat} {T T1 T2 : SR} (h : rof e T T1) (h1 : rof e T1 T2) : rof e T T2 := ⟨h.1.trans h1.1, h.2.1.trans h1.2.1, h.2.2.1.trans h1.2.2.1, h.2.2.2.1.trans h1.2.2.2.1, fun f k1 k2 => (h.2.2.2.2 f k1 k2).trans (h1.2.2.2.2 f k1 k2)⟩
theorem rof.sm {e : Nat} {T T1 : SR} (h22 : T1.2 22 = T.2 22) (h23 : T1.2 23 = T.2 23) (h24 : T1.2 24 = T.2 24) (h26 : T1.2 26 = T.2 26) (h : ∀ f, 13 ≤ f → f ≤ 21 → T1.2 f = T.2 f) : rof e T T1 := ⟨by rw [h22]; exact og.rf, by rw [h23]; exact og.rf, by rw [h24]; exact og.rf, by rw [h26]; exact og.rf, fun f k1 k2 => by rw [h f k1 k2]; exact og.rf⟩
theorem rof_bl (T : SR) (e : Nat) {v : Nat} (hv : v < 31) : rof e T (blR T e v) := ⟨og.rf.up hv, og.rf.up hv, og.rf, og.rf, fun f k1 k2 => by
  have : (blR T e v).2 f = T.2 f := by simp [blR, ra, show f ≠ 22 by omega, show f ≠ 23 by omega]
  rw [this]; exact og.rf⟩
theorem rof_st (T : SR) (e : Nat) {v : Nat} (k : Int32) (hv : v < 31) : rof e T (stR T e v k) := ⟨og.rf.up hv, og.rf.up hv, og.rf.up hv, og.rf, fun f k1 k2 => by
  have : (stR T e v k).2 f = T.2 f := (st_f T e v k).2 f (by omega) (by omega) (by omega)
  rw [this]; exact og.rf⟩
theorem rof_bp (T : SR) (e a : Nat) (ha : a < 16) : ∀ h, h ≤ 4 → rof e T (bpR T e a h) := by
  intro h
  induction h with
  | zero => exact fun _ => rof.rf
  | succ h ih => exact fun hh => (ih (by omega)).trans (rof_bl _ e (pn_31 a ha (h + 1) hh))
theorem rK_bl (T : SR) (e v : Nat) : rK (blR T e v) e = upd (rK T e) v (-1) ∧ rU (blR T e v) e = upd (rU T e) v 0 := by
  constructor <;> funext w <;> simp only [rK, rU, blR, ra, upd] <;> by_cases h : w = v <;> simp [h, upd]
theorem rK_st (T : SR) (e v : Nat) (k : Int32) : rK (stR T e v k) e = upd (rK T e) v k ∧ rU (stR T e v k) e = upd (rU T e) v 0 ∧ ∀ w, (stR T e v k).2 24 (31 * e + w) = if w = v then nI e else T.2 24 (31 * e + w) := by
  refine ⟨?_, ?_, fun w => ?_⟩
  · funext w; simp only [rK, stR, ra, upd]; by_cases h : w = v <;> simp [h, upd]
  · funext w; simp only [rU, stR, ra, upd]; by_cases h : w = v <;> simp [h, upd]
  · simp only [stR, ra, upd]; by_cases h : w = v <;> simp [h, upd]
def bq (a h : Nat) (x : Int32) (f : Nat → Int32) : Nat → Int32 := fun v => if pq a h v = true then x else f v
theorem bq_s (a h : Nat) (x : Int32) (f : Nat → Int32) : upd (bq a h x f) (pn a (h + 1)) x = bq a (h + 1) x f := by
  funext v
  simp only [upd, bq, pq, List.range_succ, List.any_append, List.any_cons, List.any_nil, Bool.or_false]
  by_cases e : v = pn a (h + 1)
  · subst e; simp
  · have h2 : ¬ pn a (h + 1) = v := fun q => e q.symm
    simp [e, h2]
theorem rK_bp (T : SR) (e a : Nat) : ∀ h, rK (bpR T e a h) e = bq a h (-1) (rK T e) ∧ rU (bpR T e a h) e = bq a h 0 (rU T e) := by
  intro h
  induction h with
  | zero => constructor <;> funext v <;> simp [bq, pq, bpR]
  | succ h ih =>
    rw [← bq_s, ← bq_s, ← ih.1, ← ih.2]
    exact rK_bl _ e _
theorem rd1_K (T : SR) (e a D : Nat) (v : Nat) : rK (rd1 T e a D) e v = (if pth a (D + 1) v = true then -1 else rK T e v) ∧ rU (rd1 T e a D) e v = (if pth a (D + 1) v = true then 0 else rU T e v) ∧ ∀ l, (rd1 T e a D).2 26 (16 * e + l) = if l = a then -1 else T.2 26 (16 * e + l) := by
  have h1 := rK_bp (blR T e (2 * a)) e a D
  have h2 := rK_bl T e (2 * a)
  refine ⟨?_, ?_, fun l => ?_⟩
  · rw [show rK (rd1 T e a D) e = rK (bpR (blR T e (2 * a)) e a D) e from rfl, h1.1, h2.1, pth_s]
    simp only [bq, upd]
    by_cases e1 : v = 2 * a <;> cases pq a D v <;> simp [e1]
  · rw [show rU (rd1 T e a D) e = rU (bpR (blR T e (2 * a)) e a D) e from rfl, h1.2, h2.2, pth_s]
    simp only [bq, upd]
    by_cases e1 : v = 2 * a <;> cases pq a D v <;> simp [e1]
  · have h3 : (bpR (blR T e (2 * a)) e a D).2 26 = T.2 26 := (bpR_2 _ e a D (by decide) (by decide)).trans rfl
    unfold rd1
    rw [ra_at, h3]
    simp only [upd]
    by_cases e1 : l = a <;> simp [e1]
theorem rof_rd1 (T : SR) (e a D : Nat) (ha : a < 16) (hD : D ≤ 4) : rof e T (rd1 T e a D) := by
  have h := (rof_bl T e (show 2 * a < 31 by omega)).trans (rof_bp (blR T e (2 * a)) e a ha D hD)
  refine ⟨h.1, h.2.1, h.2.2.1, ?_, fun f k1 k2 => ?_⟩
  · unfold rd1
    rw [ra_at]
    exact h.2.2.2.1.up ha
  · have : (rd1 T e a D).2 f = (bpR (blR T e (2 * a)) e a D).2 f := by unfold rd1; simp [ra, show f ≠ 26 by omega]
    rw [this]; exact h.2.2.2.2 f k1 k2
theorem rd_K (T : SR) (e D : Nat) (hD : D ≤ 4) (M : Int32) : ∀ i, i ≤ 16 → rof e T (rdR T e D M i) ∧ (∀ v, rK (rdR T e D M i) e v = (if hitI M D i v = true then -1 else rK T e v) ∧ rU (rdR T e D M i) e v = if hitI M D i v = true then 0 else rU T e v) ∧ ∀ l, (rdR T e D M i).2 26 (16 * e + l) = if l < i ∧ tb M l = true then -1 else T.2 26 (16 * e + l) := by
  intro i
  induction i with
  | zero => exact fun _ => ⟨rof.rf, fun v => ⟨by simp [hitI, rdR], by simp [hitI, rdR]⟩, fun l => by simp [rdR]⟩
  | succ i ih =>
    intro hi
    obtain ⟨i1, i2, i3⟩ := ih (by omega)
    obtain ⟨X, eX⟩ : ∃ X, X = rdR T e D M i := ⟨_, rfl⟩
    have es : rdR T e D M (i + 1) = if tb M i = true then rd1 X e i D else X := by rw [eX]; rfl
    rw [← eX] at i1 i2 i3
    rw [es]
    by_cases hb : tb M i = true
    · rw [if_pos hb]
      refine ⟨i1.trans (rof_rd1 X e i D (by omega) hD), fun v => ?_, fun l => ?_⟩
      · have h9 := rd1_K X e i D v
        rw [h9.1, h9.2.1, (i2 v).1, (i2 v).2, hit_s, hb]
        cases hitI M D i v <;> cases pth i (D + 1) v <;> simp
      · rw [(rd1_K X e i D 0).2.2 l, i3]
        by_cases e1 : l = i
        · subst e1; simp [hb]
        · by_cases e2 : l < i
          · simp [e1, e2, show l < i + 1 by omega]
          · simp [e1, e2, show ¬ l < i + 1 by omega]
    · rw [if_neg hb]
      refine ⟨i1, fun v => ?_, fun l => ?_⟩
      · rw [(i2 v).1, (i2 v).2, hit_s]
        simp [hb]
      · rw [i3]
        by_cases e1 : l = i
        · subst e1; simp [hb]
        · by_cases e2 : l < i
          · simp [e2, show l < i + 1 by omega]
          · simp [e2, show ¬ l < i + 1 by omega]
theorem shr_c {K K1 : Nat → Int32} : ∀ k, (∀ i, i < 2 ^ k → K (2 * i) = K1 (2 * i)) → shr K k = shr K1 k := by
  intro k
  induction k with
  | zero => exact fun _ => rfl
  | succ k ih =>
    intro h
    have hp : 2 ^ (k + 1) = 2 * 2 ^ k := by rw [Nat.pow_succ]; omega
    have hb : rbl k K = rbl k K1 := by
      rw [Bool.eq_iff_iff, rbl_iff, rbl_iff]
      constructor
      · intro h1 i h2 h3; rw [← h i h3]; exact h1 i h2 h3
      · intro h1 i h2 h3; rw [h i h3]; exact h1 i h2 h3
    simp only [shr]
    rw [hb, ih (fun i hi => h i (by omega))]
theorem bf_K (T : SR) (e w : Nat) : ∀ i, (w + i ≤ 31 → rof e T (blF T e w i)) ∧ ∀ v, rK (blF T e w i) e v = (if w ≤ v ∧ v < w + i then -1 else rK T e v) ∧ rU (blF T e w i) e v = if w ≤ v ∧ v < w + i then 0 else rU T e v := by
  intro i
  induction i with
  | zero => exact ⟨fun _ => rof.rf, fun v => ⟨by rw [if_neg (by omega)]; rfl, by rw [if_neg (by omega)]; rfl⟩⟩
  | succ i ih =>
    refine ⟨fun h => (ih.1 (by omega)).trans (rof_bl _ e (by omega)), fun v => ?_⟩
    have h1 := rK_bl (blF T e w i) e (w + i)
    rw [show blF T e w (i + 1) = blR (blF T e w i) e (w + i) from rfl, h1.1, h1.2]
    simp only [upd]
    rw [(ih.2 v).1, (ih.2 v).2]
    by_cases e1 : v = w + i
    · rw [if_pos e1, if_pos e1, if_pos (by omega), if_pos (by omega)]; exact ⟨rfl, rfl⟩
    · rw [if_neg e1, if_neg e1]
      by_cases e2 : w ≤ v ∧ v < w + i
      · rw [if_pos e2, if_pos e2, if_pos (by omega), if_pos (by omega)]; exact ⟨rfl, rfl⟩
      · rw [if_neg e2, if_neg e2, if_neg (by omega), if_neg (by omega)]; exact ⟨rfl, rfl⟩
theorem sk_K (e : Nat) : ∀ (k : Nat) (T : SR), k ≤ 4 → T.2 13 e = nI k → (∀ v, v < 31 → tW k ≤ v → rK T e v = -1 ∧ rU T e v = 0) → rof e T (skR e k T) ∧ (skR e k T).2 13 e = nI (shr (rK T e) k) ∧ (∀ v, v < 31 → rK (skR e k T) e v = (if tW (shr (rK T e) k) ≤ v then -1 else rK T e v) ∧ rU (skR e k T) e v = if tW (shr (rK T e) k) ≤ v then 0 else rU T e v) ∧ (skR e k T).2 24 = T.2 24 ∧ (skR e k T).2 26 = T.2 26 := by
  intro k
  induction k with
  | zero =>
    intro T _ h13 hb
    refine ⟨rof.rf, h13, fun v hv => ?_, rfl, rfl⟩
    rw [show shr (rK T e) 0 = 0 from rfl]
    by_cases h : tW 0 ≤ v
    · rw [if_pos h, if_pos h]; exact hb v hv h
    · rw [if_neg h, if_neg h]; exact ⟨rfl, rfl⟩
  | succ k ih =>
    intro T hk4 h13 hb
    have hT := tW31 (show k ≤ 4 by omega)
    rw [show skR e (k + 1) T = if rbl k (rK T e) = true then skR e k (blF (ra T 13 (upd (T.2 13) e (nI k))) e (tW k) (31 - tW k)) else T from rfl, show shr (rK T e) (k + 1) = if rbl k (rK T e) = true then shr (rK T e) k else k + 1 from rfl]
    by_cases hr : rbl k (rK T e) = true
    · rw [if_pos hr, if_pos hr]
      obtain ⟨X, eX⟩ : ∃ X, X = blF (ra T 13 (upd (T.2 13) e (nI k))) e (tW k) (31 - tW k) := ⟨_, rfl⟩
      have hf := blF_f (ra T 13 (upd (T.2 13) e (nI k))) e (tW k) (31 - tW k)
      have hbf := bf_K (ra T 13 (upd (T.2 13) e (nI k))) e (tW k) (31 - tW k)
      rw [← eX] at hf hbf ⊢
      have x13 : X.2 13 e = nI k := by rw [hf.2 13 (by decide) (by decide), ra_at]; simp [upd]
      have xK : ∀ v, v < 31 → rK X e v = (if tW k ≤ v then -1 else rK T e v) ∧ rU X e v = if tW k ≤ v then 0 else rU T e v := fun v hv => by
        have h9 := hbf.2 v
        rw [h9.1, h9.2]
        by_cases h : tW k ≤ v
        · have h8 : tW k ≤ v ∧ v < tW k + (31 - tW k) := by omega
          rw [if_pos h8, if_pos h8, if_pos h, if_pos h]; exact ⟨rfl, rfl⟩
        · have h8 : ¬ (tW k ≤ v ∧ v < tW k + (31 - tW k)) := by omega
          rw [if_neg h8, if_neg h8, if_neg h, if_neg h]; exact ⟨rfl, rfl⟩
      have es : shr (rK X e) k = shr (rK T e) k := shr_c k (fun i hi => by
        have h7 : 2 ^ (k + 1) = 2 * 2 ^ k := by rw [Nat.pow_succ]; omega
        have h8 : 2 * i < tW k := by unfold tW; omega
        rw [(xK (2 * i) (by omega)).1, if_neg (by omega)])
      obtain ⟨j1, j2, j3, j4, j5⟩ := ih X (by omega) x13 (fun v hv h => by rw [(xK v hv).1, (xK v hv).2, if_pos h, if_pos h]; exact ⟨rfl, rfl⟩)
      rw [es] at j2 j3
      have hr1 : rof e T X := (show rof e T (ra T 13 (upd (T.2 13) e (nI k))) from ⟨og.rf, og.rf, og.rf, og.rf, fun f k1 k2 => by
        by_cases e9 : f = 13
        · subst e9; rw [ra_at]; exact og.rf.u1
        · have : (ra T 13 (upd (T.2 13) e (nI k))).2 f = T.2 f := by simp [ra, e9]
          rw [this]; exact og.rf⟩).trans (hbf.1 (by omega))
      refine ⟨hr1.trans j1, j2, fun v hv => ?_, j4.trans (hf.2 24 (by decide) (by decide)), j5.trans (hf.2 26 (by decide) (by decide))⟩
      rw [(j3 v hv).1, (j3 v hv).2, (xK v hv).1, (xK v hv).2]
      have hm := tW_m (shr_le (rK T e) k)
      by_cases h : tW (shr (rK T e) k) ≤ v
      · rw [if_pos h, if_pos h, if_pos h, if_pos h]; exact ⟨rfl, rfl⟩
      · rw [if_neg h, if_neg h, if_neg h, if_neg h, if_neg (by omega), if_neg (by omega)]; exact ⟨rfl, rfl⟩
    · rw [if_neg hr, if_neg hr]
      refine ⟨rof.rf, h13, fun v hv => ?_, rfl, rfl⟩
      by_cases h : tW (k + 1) ≤ v
      · rw [if_pos h, if_pos h]; exact hb v hv h
      · rw [if_neg h, if_neg h]; exact ⟨rfl, rfl⟩
theorem ud1_K (T : SR) (e a D : Nat) (ha : a < 16) (hD : D ≤ 4) (v : Nat) (hv : v < 31) : rK (ud1 T e a D) e v = (if v = 2 * a then T.2 51 a else if pth a (D + 1) v = true then -1 else rK T e v) ∧ rU (ud1 T e a D) e v = (if pth a (D + 1) v = true then 0 else rU T e v) ∧ (ud1 T e a D).2 24 (31 * e + v) = if v = 2 * a then nI e else T.2 24 (31 * e + v) := by
  have h1 := rK_bp (stR T e (2 * a) (T.2 51 a)) e a D
  have h2 := rK_st T e (2 * a) (T.2 51 a)
  unfold ud1
  rw [h1.1, h1.2, h2.1, h2.2.1, bpR_2 _ e a D (by decide) (by decide), h2.2.2 v, pth_s]
  simp only [bq, upd]
  refine ⟨?_, ?_, by first | rfl | trivial⟩
  · by_cases e1 : v = 2 * a
    · have : pq a D v = false := pq_odd ha hD hv (by omega)
      simp [e1] at this ⊢
      simp [this]
    · cases pq a D v <;> simp [e1]
  · by_cases e1 : v = 2 * a <;> cases pq a D v <;> simp [e1]
theorem ud_K (T : SR) (e D : Nat) (hD : D ≤ 4) (M : Int32) : ∀ i, i ≤ 16 → rof e T (udR T e D M i) ∧ ∀ v, v < 31 → rK (udR T e D M i) e v = (if v % 2 = 0 ∧ v / 2 < i ∧ tb M (v / 2) = true then T.2 51 (v / 2) else if hitI M D i v = true then -1 else rK T e v) ∧ rU (udR T e D M i) e v = (if hitI M D i v = true then 0 else rU T e v) ∧ (udR T e D M i).2 24 (31 * e + v) = if v % 2 = 0 ∧ v / 2 < i ∧ tb M (v / 2) = true then nI e else T.2 24 (31 * e + v) := by
  intro i
  induction i with
  | zero => exact fun _ => ⟨rof.rf, fun v _ => ⟨by simp [hitI, udR], by simp [hitI, udR], by simp [udR]⟩⟩
  | succ i ih =>
    intro hi
    obtain ⟨i1, i2⟩ := ih (by omega)
    have hf := udR_f T e D M i
    obtain ⟨X, eX⟩ : ∃ X, X = udR T e D M i := ⟨_, rfl⟩
    have es : udR T e D M (i + 1) = if tb M i = true then ud1 X e i D else X := by rw [eX]; rfl
    rw [← eX] at i1 i2 hf
    rw [es]
    have f51 : X.2 51 = T.2 51 := hf.2 51 (by decide) (by decide) (by decide)
    by_cases hb : tb M i = true
    · rw [if_pos hb]
      refine ⟨i1.trans ((rof_st X e (X.2 51 i) (by omega)).trans (rof_bp _ e i (by omega) D hD)), fun v hv => ?_⟩
      obtain ⟨g1, g2, g3⟩ := i2 v hv
      have h9 := ud1_K X e i D (by omega) hD v hv
      rw [h9.1, h9.2.1, h9.2.2, g1, g2, g3, f51, hit_s, hb, pth_s]
      by_cases e1 : v = 2 * i
      · subst e1
        have e3 : 2 * i / 2 = i := by omega
        simp [e3, hb]
      · by_cases e2 : v % 2 = 0
        · have h10 := pq_odd (a := i) (h := D) (by omega) hD hv e2
          have h11 : v / 2 ≠ i := by omega
          have h12 : (v / 2 < i + 1) = (v / 2 < i) := by apply propext; omega
          simp [e1, e2, h10, h12]
        · simp only [e2, false_and, if_false, e1, decide_false, Bool.false_or, Bool.true_and]
          cases hitI M D i v <;> cases pq i D v <;> simp
    · rw [if_neg hb]
      refine ⟨i1, fun v hv => ?_⟩
      obtain ⟨g1, g2, g3⟩ := i2 v hv
      rw [g1, g2, g3, hit_s]
      have h12 : (v / 2 < i + 1 ∧ tb M (v / 2) = true) = (v / 2 < i ∧ tb M (v / 2) = true) := by
        apply propext
        constructor
        · rintro ⟨h1, h2⟩
          refine ⟨?_, h2⟩
          by_cases e9 : v / 2 = i
          · rw [e9] at h2; exact absurd h2 hb
          · omega
        · rintro ⟨h1, h2⟩; exact ⟨by omega, h2⟩
      simp [hb, h12]
