/-! the end of a commit, but for the members -/
def kx (X T : SR) : Prop := X.1 1 ≤ T.1 1 ∧ (∀ f, f = 2 ∨ f = 3 ∨ f = 4 → ∀ k, k < X.1 1 → T.2 f k = X.2 f k) ∧ ∀ k, X.1 1 ≤ k → k < T.1 1 → T.2 2 k = 1 ∨ T.2 2 k = 2 ∨ T.2 2 k = 3
theorem kx.rf {X : SR} : kx X X := ⟨Nat.le_refl _, fun _ _ _ _ => rfl, fun k h1 h2 => absurd h1 (by omega)⟩
theorem kx.trans {X Y T : SR} (h : kx X Y) (h1 : kx Y T) : kx X T := ⟨Nat.le_trans h.1 h1.1, fun f hf k hk => (h1.2.1 f hf k (by have := h.1; omega)).trans (h.2.1 f hf k hk), fun k k1 k2 => by
  by_cases q : k < Y.1 1
  · rw [h1.2.1 2 (Or.inl rfl) k q]; exact h.2.2 k k1 q
  · exact h1.2.2 k (by omega) k2⟩
theorem kx.sm {X T : SR} (h1 : T.1 1 = X.1 1) (h : ∀ f, f = 2 ∨ f = 3 ∨ f = 4 → T.2 f = X.2 f) : kx X T := ⟨by rw [h1]; exact Nat.le_refl _, fun f hf k _ => by rw [h f hf], fun k k1 k2 => by rw [h1] at k2; omega⟩
theorem kx_mk (X : SR) (k a b : Int32) (hk : k = 1 ∨ k = 2 ∨ k = 3) : kx X (mkR X k a b) := by
  have e0 : (mkR X k a b).1 1 = X.1 1 + 1 := (mk_f X k a b).2.1
  refine ⟨by omega, fun f hf i hi => ?_, fun i i1 i2 => ?_⟩
  · have hne : i ≠ X.1 1 := by omega
    rcases hf with q | q | q <;> subst q <;> simp [mkR, ra, ri, upd, hne]
  · have : i = X.1 1 := by omega
    subst this
    have : (mkR X k a b).2 2 (X.1 1) = k := by simp [mkR, ra, ri, upd]
    rw [this]; exact hk
theorem kx_nm (X : SR) (p : Int32) : kx X (nmR X p) := by
  unfold nmR
  by_cases h : p = -1
  · rw [if_pos h]; exact kx_mk X 1 0 0 (Or.inl rfl)
  · rw [if_neg h]; exact kx_mk X 2 p 0 (Or.inr (Or.inl rfl))
theorem kx_rnL (T : SR) (e a : Nat) : ∀ h, kx T (rnL T e a h).1 := by
  intro h
  induction h with
  | zero => exact (kx_mk T 1 0 0 (Or.inl rfl)).trans (kx.sm rfl (fun f hf => (st_f _ e _ _).2 f (by omega) (by omega) (by omega)))
  | succ h ih =>
    refine ih.trans ?_
    obtain ⟨X, eX⟩ : ∃ X, X = (rnL T e a h).1 := ⟨_, rfl⟩
    obtain ⟨p, ep⟩ : ∃ p, p = (rnL T e a h).2 := ⟨_, rfl⟩
    rw [show (rnL T e a (h + 1)).1 = (rn1 (rnL T e a h).1 e a h (rnL T e a h).2).1 from rfl, ← eX, ← ep]
    unfold rn1
    by_cases hr : rnV X e a h = []
    · rw [if_pos hr]; exact kx.sm rfl (fun f hf => by simp [blR, ra, show f ≠ 22 by omega, show f ≠ 23 by omega])
    · rw [if_neg hr]
      have h1 := rnB_f X e (pn a (h + 1)) p (rnV X e a h)
      have h2 : kx (nmR X p) (rnB X e (pn a (h + 1)) p (rnV X e a h)) := kx.sm (by rw [h1.2.1, (nm_f X p).2.1]) (fun f hf => h1.2.2.2.2 f hf)
      exact (((kx_nm X p).trans h2).trans (kx_mk _ 3 _ 0 (Or.inr (Or.inr rfl)))).trans (kx.sm rfl (fun f hf => (st_f _ e _ _).2 f (by omega) (by omega) (by omega)))
/-- what the path left in the tree -/
def PI (S3 : SC) (T6 : SR) (e a D N0 : Nat) (T9 : SR) : Prop :=
  (T9.2 21 e = 1 ∧ ∃ (X : SC) (Y : SR) (p : Int32), PA S3 T6 e a D N0 D X Y p ∧ (∀ v, rK T9 e v = rK Y e v ∧ rU T9 e v = rU Y e v) ∧ T9.2 16 e = Y.2 16 e ∧ enx Y T9 ∧ Y.1 1 + 1 ≤ T9.1 1) ∨ (T9.2 21 e = 0 ∧ T9.2 16 e = 0 ∧ ∀ v, rK T9 e v = rK T6 e v ∧ rU T9 e v = rU T6 e v)
theorem wlc_c {X T : SR} {e D i : Nat} (h21 : T.2 21 = X.2 21) (h16 : T.2 16 = X.2 16) (h40 : T.2 40 = X.2 40) : wlc T e D i = wlc X e D i := by unfold wlc; rw [h21, h16, h40]
theorem wcN_c {X T : SR} {e D : Nat} (h21 : T.2 21 = X.2 21) (h16 : T.2 16 = X.2 16) (h40 : T.2 40 = X.2 40) (h39 : T.2 39 = X.2 39) : ∀ n, wcN T e D n = wcN X e D n := by
  intro n
  induction n with
  | zero => rfl
  | succ n ih => simp only [wcN]; rw [h39, wlc_c h21 h16 h40, ih]
theorem fin_core {S : SC} {R : SR} {e a D N0 : Nat} {S3 : SC} {T6 : SR} (hPH : PH S3 T6 e a D N0) {S4 : SC} {X : SR} {c : Int32} {cnt : Nat} {pkr : Int32 → Int32 → Int32 → Prop} (hPE : PE S3 T6 e D N0 S4 X c cnt pkr) {b : Nat} (hb : b < N0) (hs4 : S4.2.1 5 (e - 1) = nI b) (hsX : X.2 14 (e - 1) = nI b) (hX12 : X.1 12 = e) (hX35 : X.1 35 = T6.1 35) (hX37 : X.2 37 = T6.2 37) (hX39 : X.2 39 = T6.2 39) (hX40 : X.2 40 = T6.2 40) (h14 : S4.2.1 14 = S3.2.1 14) (h12 : S4.2.1 12 = S3.2.1 12) (hsP : sP S4 = sP S3)
    (hw : wcN X e D (T6.1 35) = pcN S3 e (fun _ => true) (sP S3) + cnt) (hcnt : cnt ≤ pcN S3 e (fun _ => true) (sP S3))
    (hq : ∀ x y z, (∃ i, i < T6.1 35 ∧ T6.2 39 i = nI e ∧ x = T6.2 37 i ∧ y = -1 ∧ ∃ h, wlc X e D i = some h ∧ z = X.2 25 (31 * e + pn (T6.2 40 i).toNatClampNeg (h + 1))) ↔ pkr x y z)
    (hR : R.1 1 = N0 ∧ R.1 7 = T6.1 7 ∧ enx R T6 ∧ sR S3 ≤ T6.1 1 + T6.1 7) (hkx : kx R X) : CF S R e D S3 (opS S4 e c) T6 (ch9 X e D c) := by
  obtain ⟨⟨ha, haD, he⟩, -, -, ⟨n1, n2, n3⟩, -, -, -, -, -, -, -, -, ⟨hp0, hpk⟩, -⟩ := hPH
  obtain ⟨⟨m1, m2, m3⟩, ⟨k, k1, k2⟩, pTE, p6, ⟨pw, pws⟩, pTI, pru, p10, por, ⟨pe1, pe2⟩, psR⟩ := hPE
  obtain ⟨⟨o1, o2⟩, o3, o4, o5, o6, o7, o8, o9⟩ := op_A S4 X e c (b := b) (k := k) m1 (by omega) hs4 hsX k2 k1
  have c8 := ch8_f X e c
  obtain ⟨T8, eT8⟩ : ∃ T8, T8 = ch8 X e c := ⟨_, rfl⟩
  rw [← eT8] at c8 o7 o8 o9
  have t812 : T8.1 12 = e := by rw [c8.1 12 (by decide)]; exact hX12
  have t8f : ∀ f, f ≠ 2 → f ≠ 3 → f ≠ 4 → f ≠ 14 → T8.2 f = X.2 f := c8.2.1
  have e21 := t8f 21 (by decide) (by decide) (by decide) (by decide)
  have e16 := t8f 16 (by decide) (by decide) (by decide) (by decide)
  have e40 := t8f 40 (by decide) (by decide) (by decide) (by decide)
  have e39 := t8f 39 (by decide) (by decide) (by decide) (by decide)
  have e37 := t8f 37 (by decide) (by decide) (by decide) (by decide)
  have e25 := t8f 25 (by decide) (by decide) (by decide) (by decide)
  have wA := wc_A T8 e D (nI (X.1 1 + 1)) t812 (X.1 35)
  have wf := wcR_f T8 e D (nI (X.1 1 + 1)) (X.1 35)
  obtain ⟨T9, eT9⟩ : ∃ T9, T9 = ch9 X e D c := ⟨_, rfl⟩
  have e9 : wcR T8 e D (nI (X.1 1 + 1)) (X.1 35) = T9 := by rw [eT9, eT8]; rfl
  rw [e9, wcN_c e21 e16 e40 e39, hX35, hw] at wA
  rw [e9] at wf
  rw [← eT9]
  have t9f : ∀ f, f ≠ 2 → f ≠ 3 → f ≠ 4 → f ≠ 14 → f ≠ 8 → f ≠ 9 → f ≠ 10 → f ≠ 11 → f ≠ 20 → T9.2 f = X.2 f := fun f k1 k2 k3 k4 k5 k6 k7 k8 k9 => (wf.2.1 f k5 k6 k7 k8 k9).trans (t8f f k1 k2 k3 k4)
  have t9N : T9.1 1 = X.1 1 + 3 := by rw [wf.1 1 (by decide), c8.2.2]
  have t97 : T9.1 7 = X.1 7 + (pcN S3 e (fun _ => true) (sP S3) + cnt) := by rw [wA.1, c8.1 7 (by decide)]
  have epc : pcN S4 e (fun _ => true) (sP S4) = pcN S3 e (fun _ => true) (sP S3) := by rw [hsP]; exact pcN_c h14 rfl _
  rw [epc] at o2 o4
  have sq5 : sq S4 (op3 S4 e c) := by
    unfold op3 op2 op1
    exact (((sq_dr2 _ _ _).trans (sq_dr2 _ _ _)).trans (sq_pk _ _ _ _ _)).trans (sq_dr2 _ _ _)
  have o2f : ∀ d, d ≠ 5 → d ≠ 10 → d < 21 → (opS S4 e c).2.1 d = S4.2.1 d := fun d k1 k2 k3 => by
    rw [← sq5.2.2.2.2 d k2 k3]; funext i; simp [opS, stN, st1, k1]
  have hr9 : ∀ f, f = 2 ∨ f = 3 ∨ f = 4 → T9.2 f = T8.2 f := fun f hf => wf.2.1 f (by omega) (by omega) (by omega) (by omega) (by omega)
  have t82 : ∀ f, f = 2 ∨ f = 3 ∨ f = 4 → ∀ i, i < X.1 1 → T8.2 f i = X.2 f i := fun f hf i hi => by
    rw [eT8]
    have hne : i ≠ X.1 1 := by omega
    have hne1 : i ≠ X.1 1 + 1 := by omega
    have hne2 : i ≠ X.1 1 + 1 + 1 := by omega
    rcases hf with q | q | q <;> subst q <;> simp [ch8, mkR, ra, ri, upd, hne, hne1, hne2]
  have t8n : T8.2 2 (X.1 1) = 6 ∧ T8.2 2 (X.1 1 + 1) = 4 ∧ T8.2 2 (X.1 1 + 2) = 5 := by
    have u1 : X.1 1 ≠ X.1 1 + 1 + 1 := by omega
    rw [eT8]; simp [ch8, mkR, ra, ri, upd, u1]
  refine ⟨⟨by rw [o1, t9N], by rw [t9N]; omega, by rw [t9N]; omega⟩, ⟨by rw [t97]; omega, by rw [o2, t9N, t97]; omega⟩, ?_, ?_, ⟨X.1 1 + 2, by rw [t9N], o3, ?_, ?_⟩, ⟨?_, ?_⟩, fun x y z => ?_, ?_, ?_, ?_, ?_, fun i i1 i2 => ?_, fun f hf i hi => ?_⟩
  · exact TE_sm pTE (by show (opS S4 e c).1 2 e = _; rw [show (opS S4 e c).1 2 e = (op3 S4 e c).1 2 e by simp [opS, stN, st1], sq5.2.1]) (by show (op3 S4 e c).2.2 = _; exact sq5.2.2.2.1) (t9f 13 (by decide) (by decide) (by decide) (by decide) (by decide) (by decide) (by decide) (by decide) (by decide)) (t9f 22 (by decide) (by decide) (by decide) (by decide) (by decide) (by decide) (by decide) (by decide) (by decide)) (t9f 23 (by decide) (by decide) (by decide) (by decide) (by decide) (by decide) (by decide) (by decide) (by decide)) (t9f 24 (by decide) (by decide) (by decide) (by decide) (by decide) (by decide) (by decide) (by decide) (by decide))
  · refine TI_c pTI (fun v _ => ?_)
    simp only [rK, rU]
    rw [t9f 22 (by decide) (by decide) (by decide) (by decide) (by decide) (by decide) (by decide) (by decide) (by decide), t9f 23 (by decide) (by decide) (by decide) (by decide) (by decide) (by decide) (by decide) (by decide) (by decide)]
    exact ⟨rfl, rfl⟩
  · rw [wf.2.1 14 (by decide) (by decide) (by decide) (by decide) (by decide), eT8]; unfold ch8; rw [ra_at]; simp [upd]
  · rw [hr9 2 (by omega)]; exact t8n.2.2
  · rw [o2f 6 (by decide) (by decide) (by decide), t9f 16 (by decide) (by decide) (by decide) (by decide) (by decide) (by decide) (by decide) (by decide) (by decide)]; exact p6
  · rw [o4, p10, wA.2.1, t8f 20 (by decide) (by decide) (by decide) (by decide), ← nI_add]; ac_rfl
  · rw [o5, pru, ← hq x y z, wA.2.2.1, o7]
    have wq : wcQ T8 e D (nI (X.1 1 + 1)) (T6.1 35) x y z ↔ (∃ i, i < sP S4 ∧ S4.2.1 14 i = nI e ∧ x = S4.2.1 12 i ∧ y = -1 ∧ z = nI (X.1 1 + 1)) ∨ (∃ i, i < T6.1 35 ∧ T6.2 39 i = nI e ∧ x = T6.2 37 i ∧ y = -1 ∧ ∃ h, wlc X e D i = some h ∧ z = X.2 25 (31 * e + pn (T6.2 40 i).toNatClampNeg (h + 1))) := by
      unfold wcQ
      rw [e39, e37, e40, e25, hX39, hX37, hX40, hsP, hp0, h14, h12]
      constructor
      · rintro ⟨i, u1, u2, u3, u4, u5⟩
        rcases u5 with u5 | ⟨h, u5, u6⟩
        · obtain ⟨g1, g2, -⟩ := hpk i u1
          exact Or.inl ⟨i, u1, by rw [g1]; exact u2, by rw [g2]; exact u3, u4, u5⟩
        · rw [wlc_c e21 e16 e40] at u5
          exact Or.inr ⟨i, u1, u2, u3, u4, h, u5, u6⟩
      · rintro (⟨i, u1, u2, u3, u4, u5⟩ | ⟨i, u1, u2, u3, u4, h, u5, u6⟩)
        · obtain ⟨g1, g2, -⟩ := hpk i u1
          rw [g1] at u2
          rw [g2] at u3
          exact ⟨i, u1, u2, u3, u4, Or.inl u5⟩
        · exact ⟨i, u1, u2, u3, u4, Or.inr ⟨h, by rw [wlc_c e21 e16 e40]; exact u5, u6⟩⟩
    rw [wq]
    generalize (∃ i, i < sP S4 ∧ S4.2.1 14 i = nI e ∧ x = S4.2.1 12 i ∧ y = -1 ∧ z = nI (X.1 1 + 1)) = A1
    generalize (∃ i, i < T6.1 35 ∧ T6.2 39 i = nI e ∧ x = T6.2 37 i ∧ y = -1 ∧ ∃ h, wlc X e D i = some h ∧ z = X.2 25 (31 * e + pn (T6.2 40 i).toNatClampNeg (h + 1))) = A2
    generalize ruR X x y z = A3
    generalize (x = nI b ∧ y = -1 ∧ z = nI (X.1 1)) = A4
    generalize (x = nI (X.1 1) ∧ y = c ∧ z = nI (X.1 1 + 1)) = A5
    generalize (x = nI (X.1 1 + 1) ∧ y = -1 ∧ z = nI (X.1 1 + 2)) = A6
    constructor
    · rintro ((u | u) | u | u | u | u)
      · exact Or.inl (Or.inl u)
      · exact Or.inr (Or.inr u)
      · exact Or.inl (Or.inr (Or.inl u))
      · exact Or.inl (Or.inr (Or.inr (Or.inl u)))
      · exact Or.inr (Or.inl u)
      · exact Or.inl (Or.inr (Or.inr (Or.inr u)))
    · rintro ((u | u | u | u) | (u | u))
      · exact Or.inl (Or.inl u)
      · exact Or.inr (Or.inl u)
      · exact Or.inr (Or.inr (Or.inl u))
      · exact Or.inr (Or.inr (Or.inr (Or.inr u)))
      · exact Or.inr (Or.inr (Or.inr (Or.inl u)))
      · exact Or.inl (Or.inr u)
  · refine o6 por (fun i hi h9 => ?_)
    rw [hsP, hp0] at hi
    obtain ⟨-, g2, ⟨q, g3, g4⟩, -⟩ := hpk i hi
    rw [h12, g2]
    exact ⟨q, by omega, g4⟩
  · exact wf_sm (o8 pw) (wf.1 1 (by decide)) (hr9 2 (by omega)) (hr9 3 (by omega))
  · exact wfS_sm (o9 pws) (wf.1 1 (by decide)) (hr9 2 (by omega)) (hr9 4 (by omega))
  · exact ((hR.2.2.1.trans pe1).trans (enx.sm (c8.1 7 (by decide)) (fun f k1 k2 => t8f f (by omega) (by omega) (by omega) (by omega)))).trans wA.2.2.2.1
  · rw [hr9 2 (by omega)]
    rw [t9N] at i2
    by_cases u : i < X.1 1
    · rw [t82 2 (by omega) i u]
      rcases hkx.2.2 i i1 u with q | q | q <;> rw [q] <;> decide
    · have : i = X.1 1 ∨ i = X.1 1 + 1 ∨ i = X.1 1 + 2 := by omega
      rcases this with q | q | q
      · rw [q, t8n.1]; decide
      · rw [q, t8n.2.1]; decide
      · rw [q, t8n.2.2]; decide
  · rw [hr9 f hf, t82 f hf i (by have := hkx.1; omega)]
    exact hkx.2.1 f hf i hi
