/-! the ADDs keep step -/
theorem mu_K (X : SR) (e a : Nat) (ha : a < 16) : ∀ h, h ≤ 4 → rof e X (muR X e a h) ∧ rK (muR X e a h) e = rK X e ∧ ∀ v, rU (muR X e a h) e v = if pq a h v = true ∧ rK X e v ≠ -1 then rU X e v ||| bitN a else rU X e v := by
  intro h
  induction h with
  | zero => exact fun _ => ⟨rof.rf, rfl, fun v => by simp [pq, muR]⟩
  | succ h ih =>
    intro hh
    obtain ⟨i1, i2, i3⟩ := ih (by omega)
    obtain ⟨Y, eY⟩ : ∃ Y, Y = muR X e a h := ⟨_, rfl⟩
    have es : muR X e a (h + 1) = if rK Y e (pn a (h + 1)) = -1 then Y else ra Y 23 (upd (Y.2 23) (31 * e + pn a (h + 1)) (Y.2 23 (31 * e + pn a (h + 1)) ||| bitN a)) := by rw [eY]; rfl
    rw [← eY] at i1 i2 i3
    rw [es]
    have pqs : ∀ v, pq a (h + 1) v = (pq a h v || decide (v = pn a (h + 1))) := fun v => by
      rw [Bool.eq_iff_iff, Bool.or_eq_true, pq_iff, pq_iff, decide_eq_true_eq]
      constructor
      · rintro ⟨j, h1, h2⟩
        by_cases e9 : j = h
        · subst e9; exact Or.inr h2.symm
        · exact Or.inl ⟨j, by omega, h2⟩
      · rintro (⟨j, h1, h2⟩ | h1)
        · exact ⟨j, by omega, h2⟩
        · exact ⟨h, by omega, h1.symm⟩
    have pqn : pq a h (pn a (h + 1)) = false := by
      cases hb : pq a h (pn a (h + 1)) with
      | false => rfl
      | true =>
        obtain ⟨j, h1, h2⟩ := pq_iff.mp hb
        have := pn_in a ha (j + 1) (by omega) (h + 1) hh h2
        omega
    by_cases hk : rK Y e (pn a (h + 1)) = -1
    · rw [if_pos hk]
      refine ⟨i1, i2, fun v => ?_⟩
      rw [i3 v, pqs v]
      by_cases e9 : v = pn a (h + 1)
      · subst e9
        rw [i2] at hk
        simp [hk]
      · simp [e9]
    · rw [if_neg hk]
      refine ⟨i1.trans ⟨og.rf, og.rf.up (pn_31 a ha (h + 1) hh), og.rf, og.rf, fun f k1 k2 => ?_⟩, i2, fun v => ?_⟩
      · rw [show (ra Y 23 (upd (Y.2 23) (31 * e + pn a (h + 1)) (Y.2 23 (31 * e + pn a (h + 1)) ||| bitN a))).2 f = Y.2 f by simp [ra, show f ≠ 23 by omega]]; exact og.rf
      · unfold rU
        rw [ra_at]
        simp only [upd]
        rw [pqs v]
        by_cases e9 : v = pn a (h + 1)
        · subst e9
          rw [if_pos rfl]
          have h9 := i3 (pn a (h + 1))
          unfold rU at h9
          rw [h9, pqn]
          rw [i2] at hk
          simp [hk]
        · rw [if_neg (by omega)]
          have h9 := i3 v
          unfold rU at h9
          rw [h9]
          simp [e9]
theorem fbl_c {D : Nat} {K K1 : Nat → Int32} (h : ∀ i, i < 2 ^ D → K (2 * i) = K1 (2 * i)) : fbl D K = fbl D K1 := by
  unfold fbl
  congr 1
  have : ∀ L : List Nat, (∀ i, i ∈ L → i < 2 ^ D) → L.find? (fun i => K (2 * i) == -1) = L.find? (fun i => K1 (2 * i) == -1) := by
    intro L
    induction L with
    | nil => exact fun _ => rfl
    | cons x L ih =>
      intro hL
      rw [List.find?_cons, List.find?_cons, h x (hL x (by simp)), ih (fun i hi => hL i (by simp [hi]))]
  exact this _ (fun i hi => List.mem_range.mp hi)
theorem aa1_K (T : SR) (e p a D : Nat) (ha : a < 16) (hD1 : gD a D ≤ 4) : rof e T (aa1 T e p a D) ∧ rK (aa1 T e p a D) e = upd (rK T e) (2 * a) (T.2 38 p) ∧ (∀ v, v < 31 → rU (aa1 T e p a D) e v = if pq a (gD a D) v = true ∧ upd (rK T e) (2 * a) (T.2 38 p) v ≠ -1 then rU T e v ||| bitN a else if v = 2 * a then 0 else rU T e v) ∧ (∀ v, (aa1 T e p a D).2 24 (31 * e + v) = if v = 2 * a then nI e else T.2 24 (31 * e + v)) ∧ (∀ l, ow (aa1 T e p a D) e l = if l = a then T.2 36 p else ow T e l) ∧ (aa1 T e p a D).2 19 = upd (T.2 19) e (T.2 19 e ||| bitN a) ∧ (aa1 T e p a D).2 39 = upd (T.2 39) p (nI e) ∧ (aa1 T e p a D).2 40 = upd (T.2 40) p (nI a) := by
  obtain ⟨Y, eY⟩ : ∃ Y, Y = stR (ga T e a D) e (2 * a) (T.2 38 p) := ⟨_, rfl⟩
  have hg : rof e T (ga T e a D) := by
    unfold ga
    by_cases h : a = 2 ^ D
    · rw [if_pos h]; exact rof_1 e T (nI (D + 1)) (f := 13) (by decide) (by decide)
    · rw [if_neg h]; exact rof.rf
  have gf := ga_f T e a D
  have hs := rof_st (ga T e a D) e (T.2 38 p) (show 2 * a < 31 by omega)
  have ks := rK_st (ga T e a D) e (2 * a) (T.2 38 p)
  have hm := mu_K Y e a ha (gD a D) hD1
  rw [← eY] at hs ks
  have gK : rK (ga T e a D) e = rK T e := by funext v; simp only [rK]; rw [gf.2 22 (by decide)]
  have gU : rU (ga T e a D) e = rU T e := by funext v; simp only [rU]; rw [gf.2 23 (by decide)]
  rw [gK] at ks
  rw [gU] at ks
  have hr := (hg.trans hs).trans hm.1
  have mf := mx_f T e p a D (gD a D)
  rw [← eY] at mf
  have e26 : (aa1 T e p a D).2 26 = upd (T.2 26) (16 * e + a) (T.2 36 p) := rfl
  have e19 : (aa1 T e p a D).2 19 = upd (T.2 19) e (T.2 19 e ||| bitN a) := rfl
  refine ⟨⟨?_, ?_, ?_, ?_, fun f k1 k2 => ?_⟩, ?_, fun v hv => ?_, fun v => ?_, fun l => ?_, e19, rfl, rfl⟩
  · have : (aa1 T e p a D).2 22 = (muR Y e a (gD a D)).2 22 := by rw [eY]; rfl
    rw [this]; exact hr.1
  · have : (aa1 T e p a D).2 23 = (muR Y e a (gD a D)).2 23 := by rw [eY]; rfl
    rw [this]; exact hr.2.1
  · have : (aa1 T e p a D).2 24 = (muR Y e a (gD a D)).2 24 := by rw [eY]; rfl
    rw [this]; exact hr.2.2.1
  · rw [e26]; exact og.rf.up ha
  · by_cases e9 : f = 19
    · subst e9; rw [e19]; exact og.rf.u1
    · have : (aa1 T e p a D).2 f = (muR Y e a (gD a D)).2 f := by
        rw [eY]; simp [aa1, ra, e9, show f ≠ 40 by omega, show f ≠ 39 by omega, show f ≠ 26 by omega]
      rw [this]; exact hr.2.2.2.2 f k1 k2
  · have : rK (aa1 T e p a D) e = rK (muR Y e a (gD a D)) e := by rw [eY]; rfl
    rw [this, hm.2.1]; exact ks.1
  · have : rU (aa1 T e p a D) e = rU (muR Y e a (gD a D)) e := by rw [eY]; rfl
    rw [this, hm.2.2 v, ks.1, ks.2.1]
    simp only [upd]
    by_cases e9 : v = 2 * a
    · have : pq a (gD a D) v = false := pq_odd ha hD1 hv (by omega)
      simp [this]
    · simp [e9]
  · have h1 : (aa1 T e p a D).2 24 = (muR Y e a (gD a D)).2 24 := by rw [eY]; rfl
    rw [h1, (muR_f Y e a (gD a D)).2 24 (by decide), ks.2.2 v, gf.2 24 (by decide)]
  · unfold ow
    rw [e26]
    simp only [upd]
    by_cases e9 : l = a
    · simp [e9]
    · rw [if_neg (by omega), if_neg e9]
theorem adD_K (S : SC) (e p a D1 : Nat) : (adD S e p a D1).1 2 e = D1 ∧ (adD S e p a D1).2.2 2 e = upd (S.2.2 2 e) (2 * a) (S.2.1 13 p) ∧ (adD S e p a D1).2.2 3 e = upd (S.2.2 3 e) (2 * a) (nI e) ∧ (∀ v, (adD S e p a D1).2.2 4 e v = if pq a D1 v = true ∧ upd (S.2.2 2 e) (2 * a) (S.2.1 13 p) v ≠ -1 then upd (S.2.2 4 e) (2 * a) 0 v ||| bitN a else upd (S.2.2 4 e) (2 * a) 0 v) ∧ (∀ l, (adD S e p a D1).2.1 20 l = if l = a then S.2.1 11 p else S.2.1 20 l) ∧ (adD S e p a D1).2.1 9 e = S.2.1 9 e ||| bitN a ∧ (∀ q, (adD S e p a D1).2.1 14 q = if q = p then nI e else S.2.1 14 q) ∧ (∀ q, (adD S e p a D1).2.1 15 q = if q = p then nI a else S.2.1 15 q) ∧ (∀ c f, f ≠ e → (adD S e p a D1).2.2 c f = S.2.2 c f) ∧ (∀ f, f ≠ e → (adD S e p a D1).1 2 f = S.1 2 f) ∧ ∀ f, f ≠ e → (adD S e p a D1).2.1 9 f = S.2.1 9 f := by
  refine ⟨by simp [adD, gvS, trS, dpS, st1, st2, stN], by simp [adD, gvS, trS, dpS, st1, st2, stN], by simp [adD, gvS, trS, dpS, st1, st2, stN], fun v => ?_, fun l => by simp [adD, gvS, trS, dpS, st1, st2, stN], by simp [adD, gvS, trS, dpS, st1, st2, stN], fun q => by simp [adD, gvS, trS, dpS, st1, st2, stN], fun q => by simp [adD, gvS, trS, dpS, st1, st2, stN], fun c f hf => by simp [adD, gvS, trS, dpS, st1, st2, stN, hf], fun f hf => by simp [adD, gvS, trS, dpS, st1, st2, stN, hf], fun f hf => by simp [adD, gvS, trS, dpS, st1, st2, stN, hf]⟩
  have : (adD S e p a D1).2.2 4 e v = mk1 a (upd (S.2.2 2 e) (2 * a) (S.2.1 13 p)) (upd (S.2.2 4 e) (2 * a) 0) D1 v := by simp [adD, gvS, trS, dpS, st1, st2, stN]
  rw [this]
  rfl
