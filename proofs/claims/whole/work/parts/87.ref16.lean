/-! change, commit -/
def ch0 (R : SR) (e a D : Nat) : SR := ra (ctR R (e - 1) e D) 15 (upd ((ctR R (e - 1) e D).2 15) e (nI a))
def ch1 (R : SR) (e a D : Nat) : SR := ra (ch0 R e a D) 17 (upd ((ch0 R e a D).2 17) e (fmM (ch0 R e a D) (e - 1) D a ((ch0 R e a D).2 17 e) (R.1 42)))
def ch2 (R : SR) (e a D : Nat) : SR := fuR (ch1 R e a D) e a (R.1 42)
def ch3 (R : SR) (e a D : Nat) : SR := skR e D (rdR (ch2 R e a D) e D ((ch2 R e a D).2 17 e) 16)
def ch4 (R : SR) (e a D : Nat) : SR := udR (ch3 R e a D) e (dp (ch3 R e a D) e) ((ch3 R e a D).2 18 e) 16
def ch5 (R : SR) (e a D : Nat) : SR := alR (ch4 R e a D) e (R.1 42)
abbrev chp (T : SR) (e : Nat) (x : Int32) : Prop := x ≠ 0 ∨ T.2 17 e ≠ 0 ∨ T.2 18 e ≠ 0 ∨ T.2 19 e = 0
def ch6 (R : SR) (e a D : Nat) (x : Int32) : SR := ra (ch5 R e a D) 21 (upd ((ch5 R e a D).2 21) e (if chp (ch5 R e a D) e x then 1 else 0))
def ch7 (R : SR) (e a D : Nat) (x : Int32) : SR × Int32 := if chp (ch5 R e a D) e x then (nmR (rnL (ch6 R e a D x) e a (dp (ch5 R e a D) e)).1 (rnL (ch6 R e a D x) e a (dp (ch5 R e a D) e)).2, nI ((rnL (ch6 R e a D x) e a (dp (ch5 R e a D) e)).1.1 1)) else (ch6 R e a D x, 0)
def ch8 (X : SR) (e : Nat) (c : Int32) : SR := ra (mkR (mkR (mkR X 6 (X.2 14 (e - 1)) 0) 4 (nI (X.1 1)) c) 5 (nI (X.1 1 + 1)) 0) 14 (upd (X.2 14) e (nI (X.1 1 + 2)))
def ch9 (X : SR) (e D : Nat) (c : Int32) : SR := wcR (ch8 X e c) e D (nI (X.1 1 + 1)) (X.1 35)
abbrev lvQ (X : SR) (e i : Nat) : Prop := X.2 27 i = nI (e - 1) ∧ ¬ X.2 17 e &&& bitN (X.2 28 i).toNatClampNeg = 0
def lvL (X : SR) (e : Nat) : Nat → SR
  | 0 => X
  | i + 1 => if lvQ X e i then lvR (lvL X e i) i else lvL X e i
def chE (X : SR) (m e a D : Nat) (c : Int32) : SR := ri (adR (lvL (ri (ch9 X e D c) 12 (e + 1)) e 16) m e a D (X.2 21 e)) 42 0
theorem ctR_f (R : SR) (f e D : Nat) : (ctR R f e D).1 = R.1 ∧ ∀ q, q ≠ 13 → q ≠ 22 → q ≠ 23 → q ≠ 24 → q ≠ 25 → q ≠ 26 → (ctR R f e D).2 q = R.2 q := ⟨rfl, fun q h1 h2 h3 h4 h5 h6 => by simp [ctR, ctA, f4, ra, h1, h2, h3, h4, h5, h6]⟩
theorem skR_f (e : Nat) : ∀ (k : Nat) (T : SR), (skR e k T).1 = T.1 ∧ (∀ f, f ≠ 13 → f ≠ 22 → f ≠ 23 → (skR e k T).2 f = T.2 f) ∧ (T.2 13 e = nI k → ∃ D3, D3 ≤ k ∧ (skR e k T).2 13 e = nI D3) := by
  intro k
  induction k with
  | zero => exact fun T => ⟨rfl, fun _ _ _ _ => rfl, fun h => ⟨0, Nat.le_refl _, h⟩⟩
  | succ k ih =>
    intro T
    simp only [skR]
    by_cases hb : rbl k (rK T e) = true
    · rw [if_pos hb]
      have h1 := ih (blF (ra T 13 (upd (T.2 13) e (nI k))) e (tW k) (31 - tW k))
      have h2 := blF_f (ra T 13 (upd (T.2 13) e (nI k))) e (tW k) (31 - tW k)
      refine ⟨h1.1.trans h2.1, fun f k1 k2 k3 => (h1.2.1 f k1 k2 k3).trans ((h2.2 f k2 k3).trans (by simp [ra, k1])), fun _ => ?_⟩
      obtain ⟨D3, h4, h5⟩ := h1.2.2 (by rw [h2.2 13 (by decide) (by decide), ra_at]; simp [upd])
      exact ⟨D3, by omega, h5⟩
    · rw [if_neg hb]; exact ⟨rfl, fun _ _ _ _ => rfl, fun h => ⟨k + 1, Nat.le_refl _, h⟩⟩
theorem ch2_f (R : SR) (e a D : Nat) : (ch2 R e a D).1 = R.1 ∧ ∀ f, f ≠ 13 → f ≠ 15 → f ≠ 17 → f ≠ 18 → f ≠ 22 → f ≠ 23 → f ≠ 24 → f ≠ 25 → f ≠ 26 → f ≠ 51 → (ch2 R e a D).2 f = R.2 f :=
  ⟨rfl, fun f k1 k2 k3 k4 k5 k6 k7 k8 k9 k10 => by
    simp only [ch2, fuR, d2, ch1, ch0, ra, if_neg k10, if_neg k4, if_neg k3, if_neg k2]
    exact (ctR_f R (e - 1) e D).2 f k1 k5 k6 k7 k8 k9⟩
theorem ch2_13 (R : SR) (e a D : Nat) : (ch2 R e a D).2 13 e = nI D := by
  show (upd (R.2 13) e (nI D)) e = nI D
  simp [upd]
theorem ch3_f (R : SR) (e a D : Nat) : (ch3 R e a D).1 = R.1 ∧ (∀ f, f ≠ 13 → f ≠ 15 → f ≠ 17 → f ≠ 18 → f ≠ 22 → f ≠ 23 → f ≠ 24 → f ≠ 25 → f ≠ 26 → f ≠ 51 → (ch3 R e a D).2 f = R.2 f) ∧ ∃ D3, D3 ≤ D ∧ (ch3 R e a D).2 13 e = nI D3 := by
  have h2 := ch2_f R e a D
  have h3 := rdR_f (ch2 R e a D) e D ((ch2 R e a D).2 17 e) 16
  have h4 := skR_f e D (rdR (ch2 R e a D) e D ((ch2 R e a D).2 17 e) 16)
  refine ⟨h4.1.trans (h3.1.trans h2.1), fun f k1 k2 k3 k4 k5 k6 k7 k8 k9 k10 => (h4.2.1 f k1 k5 k6).trans ((h3.2 f k5 k6 k9).trans (h2.2 f k1 k2 k3 k4 k5 k6 k7 k8 k9 k10)), h4.2.2 ?_⟩
  rw [h3.2 13 (by decide) (by decide) (by decide)]
  exact ch2_13 R e a D
theorem ch4_f (R : SR) (e a D : Nat) : (ch4 R e a D).1 = R.1 ∧ (∀ f, f ≠ 13 → f ≠ 15 → f ≠ 17 → f ≠ 18 → f ≠ 22 → f ≠ 23 → f ≠ 24 → f ≠ 25 → f ≠ 26 → f ≠ 51 → (ch4 R e a D).2 f = R.2 f) ∧ ∃ D3, D3 ≤ D ∧ (ch4 R e a D).2 13 e = nI D3 := by
  have h3 := ch3_f R e a D
  have h4 := udR_f (ch3 R e a D) e (dp (ch3 R e a D) e) ((ch3 R e a D).2 18 e) 16
  refine ⟨h4.1.trans h3.1, fun f k1 k2 k3 k4 k5 k6 k7 k8 k9 k10 => (h4.2 f k5 k6 k7).trans (h3.2.1 f k1 k2 k3 k4 k5 k6 k7 k8 k9 k10), ?_⟩
  obtain ⟨D3, h5, h6⟩ := h3.2.2
  exact ⟨D3, h5, by unfold ch4; rw [h4.2 13 (by decide) (by decide) (by decide)]; exact h6⟩
theorem ch5_f (R : SR) (e a D : Nat) (h4 : D ≤ 4) : (ch5 R e a D).1 = R.1 ∧ (∀ f, f ≠ 13 → f ≠ 15 → f ≠ 17 → f ≠ 18 → f ≠ 19 → f ≠ 22 → f ≠ 23 → f ≠ 24 → f ≠ 25 → f ≠ 26 → f ≠ 39 → f ≠ 40 → f ≠ 51 → (ch5 R e a D).2 f = R.2 f) ∧ ∃ D3, D3 ≤ 4 ∧ (ch5 R e a D).2 13 e = nI D3 := by
  have h3 := ch4_f R e a D
  have h5 := alR_f (ch4 R e a D) e (R.1 42)
  obtain ⟨D3, h7, h6⟩ := h3.2.2
  exact ⟨h5.1.trans h3.1, fun f k1 k2 k3 k4 k5 k6 k7 k8 k9 k10 k11 k12 k13 => (h5.2 f k1 k5 k6 k7 k8 k10 k11 k12).trans (h3.2.1 f k1 k2 k3 k4 k6 k7 k8 k9 k10 k13), alR_13 _ e ⟨D3, by omega, h6⟩ _⟩
theorem ch6_f (R : SR) (e a D : Nat) (x : Int32) (h4 : D ≤ 4) : (ch6 R e a D x).1 = R.1 ∧ (∀ f, f ≠ 13 → f ≠ 15 → f ≠ 17 → f ≠ 18 → f ≠ 19 → f ≠ 21 → f ≠ 22 → f ≠ 23 → f ≠ 24 → f ≠ 25 → f ≠ 26 → f ≠ 39 → f ≠ 40 → f ≠ 51 → (ch6 R e a D x).2 f = R.2 f) := by
  have h5 := ch5_f R e a D h4
  exact ⟨h5.1, fun f k1 k2 k3 k4 k5 k0 k6 k7 k8 k9 k10 k11 k12 k13 => by simp only [ch6, ra, if_neg k0]; exact h5.2.1 f k1 k2 k3 k4 k5 k6 k7 k8 k9 k10 k11 k12 k13⟩
theorem ch7_f (R : SR) (e a D : Nat) (x : Int32) (h4 : D ≤ 4) : (∀ f, f ≠ 1 → f ≠ 7 → (ch7 R e a D x).1.1 f = R.1 f) ∧ (∀ f, f ≠ 2 → f ≠ 3 → f ≠ 4 → f ≠ 8 → f ≠ 9 → f ≠ 10 → f ≠ 11 → f ≠ 16 → f ≠ 20 → f ≠ 25 → f ≠ 22 → f ≠ 23 → f ≠ 24 → (ch7 R e a D x).1.2 f = (ch6 R e a D x).2 f) := by
  unfold ch7
  have h6 := ch6_f R e a D x h4
  by_cases hc : chp (ch5 R e a D) e x
  · rw [if_pos hc]
    have h7 := rnL_f (ch6 R e a D x) e a (dp (ch5 R e a D) e)
    have h8 := nm_f (rnL (ch6 R e a D x) e a (dp (ch5 R e a D) e)).1 (rnL (ch6 R e a D x) e a (dp (ch5 R e a D) e)).2
    exact ⟨fun f k1 k2 => (h8.1 f k1).trans ((h7.1 f k1 k2).trans (by rw [h6.1])), fun f k1 k2 k3 k4 k5 k6 k7 k8 k9 k10 k11 k12 k13 => (h8.2.2 f k1 k2 k3).trans (h7.2 f k1 k2 k3 k4 k5 k6 k7 k8 k9 k10 k11 k12 k13)⟩
  · rw [if_neg hc]; exact ⟨fun f _ _ => by rw [h6.1], fun _ _ _ _ _ _ _ _ _ _ _ _ _ _ => rfl⟩
def wfF (X : SR) : Prop := ∀ i, i < X.1 1 → X.2 2 i ≠ 0 → X.2 2 i ≠ 1 → ∃ b, b < i ∧ X.2 3 i = nI b
theorem wf_mk {X : SR} {k q : Int32} {b : Nat} (hw : wfF X) (hb : b < X.1 1) : wfF (mkR X k (nI b) q) := by
  intro i hi h0 h1
  have hi : i < X.1 1 + 1 := hi
  by_cases e : i = X.1 1
  · subst e
    exact ⟨b, hb, by simp [mkR, ra, ri, upd]⟩
  · have e2 : (mkR X k (nI b) q).2 2 i = X.2 2 i := by simp [mkR, ra, ri, upd, e]
    have e3 : (mkR X k (nI b) q).2 3 i = X.2 3 i := by simp [mkR, ra, ri, upd, e]
    rw [e2] at h0 h1
    rw [e3]
    exact hw i (by omega) h0 h1
theorem wf_of {X : SR} {k k1 p q r : Int32} (hw : wfF X) (hN : X.1 1 ≤ 2600) (h0 : k1 ≠ 0) (h1 : k1 ≠ 1) (hk : k ≠ k1) : ∀ i, i < (mkR X k p q).1 1 → ¬ ((mkR X k p q).2 2 i = k1 ∧ (mkR X k p q).2 3 i = nI (X.1 1) ∧ (mkR X k p q).2 4 i = r) := by
  rintro i hi ⟨g1, g2, -⟩
  have hi : i < X.1 1 + 1 := hi
  by_cases e : i = X.1 1
  · subst e
    exact hk (by rw [← g1]; simp [mkR, ra, ri, upd])
  · have e2 : (mkR X k p q).2 2 i = X.2 2 i := by simp [mkR, ra, ri, upd, e]
    have e3 : (mkR X k p q).2 3 i = X.2 3 i := by simp [mkR, ra, ri, upd, e]
    rw [e2] at g1
    rw [e3] at g2
    obtain ⟨b, hb, hq⟩ := hw i (by omega) (by rw [g1]; exact h0) (by rw [g1]; exact h1)
    rw [hq] at g2
    have := (nI_eq (by omega) (by omega)).mp g2
    omega
theorem lv_f (T : SR) (m : Nat) : (lvR T m).1 = T.1 ∧ (∀ f, f ≠ 27 → f ≠ 28 → f ≠ 29 → f ≠ 31 → f ≠ 32 → f ≠ 33 → (lvR T m).2 f = T.2 f) ∧ ∀ j, j ≠ m → (lvR T m).2 27 j = T.2 27 j ∧ (lvR T m).2 28 j = T.2 28 j :=
  ⟨rfl, fun f h1 h2 h3 h4 h5 h6 => by simp [lvR, lvR0, ra, h1, h2, h3, h4, h5, h6], fun j hj => ⟨by simp [lvR, lvR0, ra, upd, hj], by simp [lvR, lvR0, ra, upd, hj]⟩⟩
theorem lvL_f (X : SR) (e : Nat) (i : Nat) : (lvL X e i).1 = X.1 ∧ (∀ f, f ≠ 27 → f ≠ 28 → f ≠ 29 → f ≠ 31 → f ≠ 32 → f ≠ 33 → (lvL X e i).2 f = X.2 f) ∧ ∀ j, (i ≤ j ∨ ¬ lvQ X e j) → (lvL X e i).2 27 j = X.2 27 j ∧ (lvL X e i).2 28 j = X.2 28 j := by
  induction i with
  | zero => exact ⟨rfl, fun _ _ _ _ _ _ _ => rfl, fun _ _ => ⟨rfl, rfl⟩⟩
  | succ i ih =>
    simp only [lvL]
    by_cases h : lvQ X e i
    · rw [if_pos h]
      have h1 := lv_f (lvL X e i) i
      refine ⟨h1.1.trans ih.1, fun f k1 k2 k3 k4 k5 k6 => (h1.2.1 f k1 k2 k3 k4 k5 k6).trans (ih.2.1 f k1 k2 k3 k4 k5 k6), fun j hj => ?_⟩
      have hji : j ≠ i := fun e9 => hj.elim (by omega) (fun h9 => h9 (by rw [e9]; exact h))
      have h2 := ih.2.2 j (hj.imp (by omega) id)
      exact ⟨(h1.2.2 j hji).1.trans h2.1, (h1.2.2 j hji).2.trans h2.2⟩
    · rw [if_neg h]
      exact ⟨ih.1, ih.2.1, fun j hj => ih.2.2 j (hj.imp (by omega) id)⟩
theorem ch8_f (X : SR) (e : Nat) (c : Int32) : (∀ f, f ≠ 1 → (ch8 X e c).1 f = X.1 f) ∧ (∀ f, f ≠ 2 → f ≠ 3 → f ≠ 4 → f ≠ 14 → (ch8 X e c).2 f = X.2 f) ∧ (ch8 X e c).1 1 = X.1 1 + 3 :=
  ⟨fun f h => by simp [ch8, mkR, ra, ri, h], fun f h1 h2 h3 h4 => by simp [ch8, mkR, ra, ri, h1, h2, h3, h4], by simp [ch8, mkR, ra, ri]⟩
theorem ch9_f (X : SR) (e D : Nat) (c : Int32) : (∀ f, f ≠ 1 → f ≠ 7 → (ch9 X e D c).1 f = X.1 f) ∧ (∀ f, f ≠ 2 → f ≠ 3 → f ≠ 4 → f ≠ 8 → f ≠ 9 → f ≠ 10 → f ≠ 11 → f ≠ 14 → f ≠ 20 → (ch9 X e D c).2 f = X.2 f) := by
  have h1 := ch8_f X e c
  have h2 := wcR_f (ch8 X e c) e D (nI (X.1 1 + 1)) (X.1 35)
  exact ⟨fun f k1 k2 => (h2.1 f k2).trans (h1.1 f k1), fun f k1 k2 k3 k4 k5 k6 k7 k8 k9 => (h2.2.1 f k4 k5 k6 k7 k9).trans (h1.2.1 f k1 k2 k3 k8)⟩
set_option maxRecDepth 100000 in
set_option maxHeartbeats 4000000 in
theorem r_change (l : Launch) (d : gh_D) (g : gh_H) {y : Nat → Nat} {R : SR} (hR : rR g y R) (m e a D0 D b : Nat) (x : Int32) (hm : m < 16) (he1 : 1 ≤ e) (he : e < 60) (hE : R.1 12 = e) (hL : R.2 28 m = nI a) (ha : a < 16) (hD0 : R.2 13 (e - 1) = nI D0) (hD04 : D0 ≤ 4) (hW : R.1 42 ≤ 20) (hP : R.1 35 ≤ 60) (hp0 : ∀ i, i < R.1 42 → R.2 43 i = 0 → ∃ p q, p < 60 ∧ R.2 45 i = nI p ∧ q < 16 ∧ R.2 36 p = nI q) (hp1 : ∀ i, i < R.1 42 → R.2 43 i = 1 → ∃ b, b < 16 ∧ R.2 45 i = nI b) (hpp : ∀ i, i < R.1 42 → ∃ q, q < 16 ∧ R.2 44 i = nI q) (hp2 : ∀ i, i < R.1 42 → R.2 43 i = 2 → ∃ b, b < 16 ∧ R.2 28 (R.2 44 i).toNatClampNeg = nI b) (hlv : ∀ q, q < 16 → R.2 27 q = nI (e - 1) → ∃ c, c < 16 ∧ R.2 28 q = nI c) (hD : (ch5 R e a D0).2 13 e = nI D) (hD4 : D ≤ 4) (hN : R.1 1 < 2600) (hpath : chp (ch5 R e a D0) e x → (∀ h, h < D → rnP (rnL (ch6 R e a D0 x) e a h).1 e a h (rnL (ch6 R e a D0 x) e a h).2) ∧ (rnL (ch6 R e a D0 x) e a D).1.1 1 < 2600 ∧ ((rnL (ch6 R e a D0 x) e a D).2 ≠ -1 → noF (rnL (ch6 R e a D0 x) e a D).1 2 (rnL (ch6 R e a D0 x) e a D).2)) (hwf : wfF (ch7 R e a D0 x).1) (hN3 : (ch7 R e a D0 x).1.1 1 + 3 ≤ 2600) (hse : R.2 14 (e - 1) = nI b) (hb : b < (ch7 R e a D0 x).1.1 1) (hno6 : noF (ch7 R e a D0 x).1 6 (nI b)) (h7 : (ch7 R e a D0 x).1.1 7 + 2 * R.1 35 ≤ 3600) (hua : ∀ p, p < R.1 35 → (ch5 R e a D0).2 39 p = nI e → ∃ c, c < 16 ∧ (ch5 R e a D0).2 40 p = nI c) (hmine : (ch5 R e a D0).2 17 e &&& bitN a = 0) : gh_C l d mR_change (rr 4 0 0) [.ref (y 0), .int (nI m), .int x] g (fun v g1 => v = none ∧ ∃ (n : Nat) (F O : Nat → Int32), rQ g g1 y (chE (rs (ch7 R e a D0 x).1 n F O) m e a D (ch7 R e a D0 x).2)) := by
  refine gh_of [some (.ref (y 0)), some (.int (nI m)), some (.int x), none, none, none, none, none] (by decide) rfl (Nat.le_of_ble_eq_true rfl) (by simp [Value.category]) (fun z C hQ => ?_)
  show gh_W l d z 0 [some (.ref (y 0)), some (.int (nI m)), some (.int x), none, none, none, none, none] [] g 0 0
  have h0 := rQ.rf hR
  have hf2 := ch2_f R e a D0
  have hf3 := ch3_f R e a D0
  have hf4 := ch4_f R e a D0
  have hf5 := ch5_f R e a D0 hD04
  have hf7 := ch7_f R e a D0 x hD04
  have hdp5 : dp (ch5 R e a D0) e = D := by unfold dp; rw [hD]; exact nI_clamp (by omega)
  obtain ⟨D3, hD3, e3⟩ := hf3.2.2
  obtain ⟨D4, hD4', e4⟩ := hf4.2.2
  have hdp3 : dp (ch3 R e a D0) e = D3 := by unfold dp; rw [e3]; exact nI_clamp (by omega)
  obtain ⟨T7, eT7⟩ : ∃ T7, T7 = (ch7 R e a D0 x).1 := ⟨_, rfl⟩
  obtain ⟨c7, ec7⟩ : ∃ c7, c7 = (ch7 R e a D0 x).2 := ⟨_, rfl⟩
  rw [← eT7] at hwf hN3 hb hno6 h7 hf7
  rw [← eT7, ← ec7] at hQ
  have g7 : ∀ f, f ≠ 2 → f ≠ 3 → f ≠ 4 → f ≠ 8 → f ≠ 9 → f ≠ 10 → f ≠ 11 → f ≠ 16 → f ≠ 20 → f ≠ 21 → f ≠ 25 → f ≠ 22 → f ≠ 23 → f ≠ 24 → T7.2 f = (ch5 R e a D0).2 f := fun f k1 k2 k3 k4 k5 k6 k7 k8 k9 k0 k10 k11 k12 k13 => by
    rw [hf7.2 f k1 k2 k3 k4 k5 k6 k7 k8 k9 k10 k11 k12 k13]; simp only [ch6, ra, if_neg k0]
  have t14 : T7.2 14 (e - 1) = nI b := by rw [g7 14 (by decide) (by decide) (by decide) (by decide) (by decide) (by decide) (by decide) (by decide) (by decide) (by decide) (by decide) (by decide) (by decide) (by decide), hf5.2.1 14 (by decide) (by decide) (by decide) (by decide) (by decide) (by decide) (by decide) (by decide) (by decide) (by decide) (by decide) (by decide) (by decide)]; exact hse
  have t13 : T7.2 13 e = nI D := by rw [g7 13 (by decide) (by decide) (by decide) (by decide) (by decide) (by decide) (by decide) (by decide) (by decide) (by decide) (by decide) (by decide) (by decide) (by decide)]; exact hD
  have t12 : T7.1 12 = e := (hf7.1 12 (by decide) (by decide)).trans hE
  have t35 : T7.1 35 = R.1 35 := hf7.1 35 (by decide) (by decide)
  have t39 : T7.2 39 = (ch5 R e a D0).2 39 := g7 39 (by decide) (by decide) (by decide) (by decide) (by decide) (by decide) (by decide) (by decide) (by decide) (by decide) (by decide) (by decide) (by decide) (by decide)
  have t40 : T7.2 40 = (ch5 R e a D0).2 40 := g7 40 (by decide) (by decide) (by decide) (by decide) (by decide) (by decide) (by decide) (by decide) (by decide) (by decide) (by decide) (by decide) (by decide) (by decide)
  have t17 : T7.2 17 = (ch5 R e a D0).2 17 := g7 17 (by decide) (by decide) (by decide) (by decide) (by decide) (by decide) (by decide) (by decide) (by decide) (by decide) (by decide) (by decide) (by decide) (by decide)
  have t27 : T7.2 27 = R.2 27 := by rw [g7 27 (by decide) (by decide) (by decide) (by decide) (by decide) (by decide) (by decide) (by decide) (by decide) (by decide) (by decide) (by decide) (by decide) (by decide), hf5.2.1 27 (by decide) (by decide) (by decide) (by decide) (by decide) (by decide) (by decide) (by decide) (by decide) (by decide) (by decide) (by decide) (by decide)]
  have t28 : T7.2 28 = R.2 28 := by rw [g7 28 (by decide) (by decide) (by decide) (by decide) (by decide) (by decide) (by decide) (by decide) (by decide) (by decide) (by decide) (by decide) (by decide) (by decide), hf5.2.1 28 (by decide) (by decide) (by decide) (by decide) (by decide) (by decide) (by decide) (by decide) (by decide) (by decide) (by decide) (by decide) (by decide)]
  have at120 : ∀ (n : Nat) (F O : Nat → Int32) (g2 : gh_H), rQ g g2 y (rs T7 n F O) → gh_W l d z 120 [some (.ref (y 0)), some (.int (nI m)), some (.int x), some (.int (nI e)), some (.int (nI a)), none, none, none] [.int c7] g2 0 0 := by
    intro n F O g2 h2
    have rest : ∀ X : SR, X = rs T7 n F O → rQ g g2 y X → gh_W l d z 120 [some (.ref (y 0)), some (.int (nI m)), some (.int x), some (.int (nI e)), some (.int (nI a)), none, none, none] [.int c7] g2 0 0 := by
      intro X eX h2
      have x1 : X.1 1 = T7.1 1 := by rw [eX]; rfl
      have x7 : X.1 7 = T7.1 7 := by rw [eX]; rfl
      have x12 : X.1 12 = e := by rw [eX]; exact t12
      have x35 : X.1 35 = R.1 35 := by rw [eX]; exact t35
      have x13 : X.2 13 e = nI D := by rw [eX]; exact t13
      have x14 : X.2 14 (e - 1) = nI b := by rw [eX]; exact t14
      have x17 : X.2 17 = (ch5 R e a D0).2 17 := by rw [eX]; exact t17
      have x27 : X.2 27 = R.2 27 := by rw [eX]; exact t27
      have x28 : X.2 28 = R.2 28 := by rw [eX]; exact t28
      have x39 : X.2 39 = (ch5 R e a D0).2 39 := by rw [eX]; exact t39
      have x40 : X.2 40 = (ch5 R e a D0).2 40 := by rw [eX]; exact t40
      have hwX : wfF X := by rw [eX]; exact hwf
      have hnX : noF X 6 (nI b) := by rw [eX]; exact hno6
      have f8 := ch8_f X e c7
      have f9 := ch9_f X e D c7
      have hN3X : X.1 1 + 3 ≤ 2600 := by omega
      have wf1 : wfF (mkR X 6 (nI b) 0) := wf_mk hwX (by omega)
      obtain ⟨Y, eY⟩ : ∃ Y, Y = ri (ch9 X e D c7) 12 (e + 1) := ⟨_, rfl⟩
      have y17 : Y.2 17 = X.2 17 := by rw [eY]; exact f9.2 17 (by decide) (by decide) (by decide) (by decide) (by decide) (by decide) (by decide) (by decide) (by decide)
      have y27 : Y.2 27 = X.2 27 := by rw [eY]; exact f9.2 27 (by decide) (by decide) (by decide) (by decide) (by decide) (by decide) (by decide) (by decide) (by decide)
      have y28 : Y.2 28 = X.2 28 := by rw [eY]; exact f9.2 28 (by decide) (by decide) (by decide) (by decide) (by decide) (by decide) (by decide) (by decide) (by decide)
      have y13 : Y.2 13 = X.2 13 := by rw [eY]; exact f9.2 13 (by decide) (by decide) (by decide) (by decide) (by decide) (by decide) (by decide) (by decide) (by decide)
      have y21 : Y.2 21 = X.2 21 := by rw [eY]; exact f9.2 21 (by decide) (by decide) (by decide) (by decide) (by decide) (by decide) (by decide) (by decide) (by decide)
      have loop : ∀ (c i : Nat) (j5 j6 : Int32) (g3 : gh_H), i + c = 16 → rQ g g3 y (lvL Y e i) → gh_W l d z 180 [some (.ref (y 0)), some (.int (nI m)), some (.int x), some (.int (nI e)), some (.int (nI a)), some (.int j5), some (.int j6), some (.int (nI i))] [] g3 0 0 := by
        intro c
        induction c with
        | zero =>
          intro i j5 j6 g3 hi h3
          have hi : i = 16 := by omega
          subst hi
          have fl := lvL_f Y e 16
          obtain ⟨V, eV⟩ : ∃ V, V = lvL Y e 16 := ⟨_, rfl⟩
          rw [← eV] at h3 fl
          have v13 : V.2 13 e = nI D := by rw [fl.2.1 13 (by decide) (by decide) (by decide) (by decide) (by decide) (by decide), y13]; exact x13
          have v21 : V.2 21 e = X.2 21 e := by rw [fl.2.1 21 (by decide) (by decide) (by decide) (by decide) (by decide) (by decide), y21]
          have v28 : V.2 28 m = nI a := by
            rw [(fl.2.2 m (Or.inr (fun hq => ?_))).2, y28, x28]
            · exact hL
            · have h9 := hq.2
              rw [y17, y28, x28, hL, nI_clamp (by omega), x17] at h9
              exact h9 hmine
          refine gh_iload C dR_change_180 rfl ?_
          refine gh_bipush C 16 dR_change_182 (by decide) ?_
          refine gh_icmp_ge C 232 dR_change_184 (by decide) (fun c184 => ?_) (fun c184 => ?_)
          ·
            refine gh_aload_n C dR_change_232 rfl ?_
            refine gh_iload_n C dR_change_233 rfl ?_
            refine gh_iload_n C dR_change_234 rfl ?_
            refine gh_aload_n C dR_change_235 rfl ?_
            refine rw_get C h3 fR_62 rfl dR_change_236 ?_
            refine gh_iload_n C dR_change_239 rfl ?_
            refine rw_zld C h3 21 60 ⟨rfl, rfl, rfl, by decide⟩ (e) rfl (by omega) dR_change_240 ?_
            refine gh_ti (X.2 21 e) v21 ?_
            refine gh_callV C [.int (nI m), .int (nI e), .int (X.2 21 e)] (r_advance l d _ h3.1 m e a D (X.2 21 e) hm he ha v13 hD4 (by omega) v28) lR_260 wR_advance vR_advance h3.1.1 rfl rfl rfl (Nat.le_of_ble_eq_true rfl) ⟨Nat.le_of_ble_eq_true rfl, Nat.le_of_ble_eq_true rfl⟩ (Nat.le_of_ble_eq_true rfl) (Nat.le_of_ble_eq_true rfl) dR_change_241 (fun v101 g101 k101 => ?_)
            obtain ⟨rfl, h101⟩ := k101
            replace h101 := h3.tr h101
            refine gh_aload_n C dR_change_244 rfl ?_
            refine gh_iconst C 0 dR_change_245 (by decide) ?_
            refine rw_put C h101 (0) rfl pR_195 (by decide) rfl (by decide) (fun _ => rfl) (fun _ => rfl) dR_change_246 (fun g102 h102 => ?_)
            refine gh_vret C hQ rfl dR_change_249 ?_
            exact ⟨rfl, n, F, O, by rw [← eX]; unfold chE; rw [← eY, ← eV]; exact h102⟩
          · exact absurd (nI_le (Nat.le_refl 16) (by decide)) c184
        | succ c ih =>
          intro i j5 j6 g3 hi h3
          have hi16 : i < 16 := by omega
          have fl := lvL_f Y e i
          have inc : ∀ (g4 : gh_H), rQ g g4 y (lvL Y e (i + 1)) → gh_W l d z 226 [some (.ref (y 0)), some (.int (nI m)), some (.int x), some (.int (nI e)), some (.int (nI a)), some (.int j5), some (.int j6), some (.int (nI i))] [] g4 0 0 := by
            intro g4 h4
            refine gh_iinc C (nI (i + 1)) [some (.ref (y 0)), some (.int (nI m)), some (.int x), some (.int (nI e)), some (.int (nI a)), some (.int j5), some (.int j6), some (.int (nI (i + 1)))] dR_change_226 rfl (gh_inc i) rfl ?_
            refine gh_goto C 180 dR_change_229 (by decide) ?_
            exact ih (i + 1) j5 j6 g4 (by omega) h4
          obtain ⟨V, eV⟩ : ∃ V, V = lvL Y e i := ⟨_, rfl⟩
          have hs : lvL Y e (i + 1) = if lvQ Y e i then lvR V i else V := by rw [eV]; rfl
          rw [hs] at inc
          rw [← eV] at h3 fl
          have v17 : V.2 17 e = Y.2 17 e := by rw [fl.2.1 17 (by decide) (by decide) (by decide) (by decide) (by decide) (by decide)]
          have v27 := (fl.2.2 i (Or.inl (Nat.le_refl _))).1
          have v28 := (fl.2.2 i (Or.inl (Nat.le_refl _))).2
          refine gh_iload C dR_change_180 rfl ?_
          refine gh_bipush C 16 dR_change_182 (by decide) ?_
          refine gh_icmp_ge C 232 dR_change_184 (by decide) (fun c184 => ?_) (fun c184 => ?_)
          · exact absurd c184 (nI_ge hi16 (by decide))
          ·
            refine gh_aload_n C dR_change_187 rfl ?_
            refine rw_get C h3 fR_80 rfl dR_change_188 ?_
            refine gh_iload C dR_change_191 rfl ?_
            refine rw_ild C h3 27 16 ⟨rfl, rfl, rfl, by decide⟩ (i) rfl (by omega) dR_change_193 ?_
            refine gh_ti (Y.2 27 i) v27 ?_
            refine gh_iload_n C dR_change_194 rfl ?_
            refine gh_iconst C 1 dR_change_195 (by decide) ?_
            refine gh_isub C dR_change_196 ?_
            refine gh_ti (nI (e - 1)) (pred_n he1) ?_
            refine gh_icmp_ne C 226 dR_change_197 (by decide) (fun c197 => ?_) (fun c197 => ?_)
            · rw [if_neg (fun hq => c197 hq.1)] at inc
              exact inc _ h3
            ·
              obtain ⟨q, hq16, hq⟩ := hlv i hi16 (by rw [← x27, ← y27]; exact c197)
              have y28i : Y.2 28 i = nI q := by rw [y28, x28]; exact hq
              have hcl : (Y.2 28 i).toNatClampNeg = q := by rw [y28i]; exact nI_clamp (by omega)
              refine gh_aload_n C dR_change_200 rfl ?_
              refine rw_get C h3 fR_50 rfl dR_change_201 ?_
              refine gh_iload_n C dR_change_204 rfl ?_
              refine rw_ild C h3 17 60 ⟨rfl, rfl, rfl, by decide⟩ (e) rfl (by omega) dR_change_205 ?_
              refine gh_ti (Y.2 17 e) v17 ?_
              refine gh_aload_n C dR_change_206 rfl ?_
              refine rw_get C h3 fR_83 rfl dR_change_207 ?_
              refine gh_iload C dR_change_210 rfl ?_
              refine rw_ild C h3 28 16 ⟨rfl, rfl, rfl, by decide⟩ (i) rfl (by omega) dR_change_212 ?_
              refine gh_ti (nI q) (by rw [v28]; exact y28i) ?_
              refine gh_ishr C dR_change_213 ?_
              refine gh_iconst C 1 dR_change_214 (by decide) ?_
              refine gh_iand C dR_change_215 ?_
              refine gh_iconst C 1 dR_change_216 (by decide) ?_
              refine gh_icmp_ne C 226 dR_change_217 (by decide) (fun c217 => ?_) (fun c217 => ?_)
              · rw [if_neg (fun hq9 => by have h9 := hq9.2; rw [hcl] at h9; exact c217 ((bt1 (by omega)).mpr h9))] at inc
                exact inc _ h3
              ·
                refine gh_aload_n C dR_change_220 rfl ?_
                refine gh_iload C dR_change_221 rfl ?_
                refine gh_callV C [.int (nI i)] (r_leave l d _ h3.1 i hi16) lR_147 wR_leave vR_leave h3.1.1 rfl rfl rfl (Nat.le_of_ble_eq_true rfl) ⟨Nat.le_of_ble_eq_true rfl, Nat.le_of_ble_eq_true rfl⟩ (Nat.le_of_ble_eq_true rfl) (Nat.le_of_ble_eq_true rfl) dR_change_223 (fun v101 g101 k101 => ?_)
                obtain ⟨rfl, h101⟩ := k101
                replace h101 := h3.tr h101
                rw [if_pos ⟨c197, by rw [hcl]; exact (bt1 (by omega)).mp c217⟩] at inc
                exact inc _ h101
      refine gh_istore C [some (.ref (y 0)), some (.int (nI m)), some (.int x), some (.int (nI e)), some (.int (nI a)), some (.int c7), none, none] dR_change_120 rfl (Nat.le_of_ble_eq_true rfl) ?_
      refine gh_aload_n C dR_change_122 rfl ?_
      refine gh_iconst C 4 dR_change_123 (by decide) ?_
      refine gh_aload_n C dR_change_124 rfl ?_
      refine gh_bipush C 6 dR_change_125 (by decide) ?_
      refine gh_aload_n C dR_change_127 rfl ?_
      refine rw_get C h2 fR_41 rfl dR_change_128 ?_
      refine gh_iload_n C dR_change_131 rfl ?_
      refine gh_iconst C 1 dR_change_132 (by decide) ?_
      refine gh_isub C dR_change_133 ?_
      refine gh_ti (nI (e - 1)) (pred_n he1) ?_
      refine rw_ild C h2 14 60 ⟨rfl, rfl, rfl, by decide⟩ (e - 1) rfl (by omega) dR_change_134 ?_
      refine gh_ti (nI b) x14 ?_
      refine gh_iconst C 0 dR_change_135 (by decide) ?_
      refine gh_callV C [.int 6, .int (nI b), .int 0] (r_of l d _ h2.1 6 (nI b) 0 (by omega) hnX) lR_221 wR_of vR_of h2.1.1 rfl rfl rfl (Nat.le_of_ble_eq_true rfl) ⟨Nat.le_of_ble_eq_true rfl, Nat.le_of_ble_eq_true rfl⟩ (Nat.le_of_ble_eq_true rfl) (Nat.le_of_ble_eq_true rfl) dR_change_136 (fun v101 g101 k101 => ?_)
      obtain ⟨rfl, h101⟩ := k101
      replace h101 := h2.tr h101
      refine gh_iload C dR_change_139 rfl ?_
      refine gh_callV C [.int 4, .int (nI (X.1 1)), .int c7] (r_of l d _ h101.1 4 (nI (X.1 1)) c7 (by show X.1 1 + 1 < 2600; omega) (wf_of hwX (by omega) (by decide) (by decide) (by decide))) lR_221 wR_of vR_of h101.1.1 rfl rfl rfl (Nat.le_of_ble_eq_true rfl) ⟨Nat.le_of_ble_eq_true rfl, Nat.le_of_ble_eq_true rfl⟩ (Nat.le_of_ble_eq_true rfl) (Nat.le_of_ble_eq_true rfl) dR_change_141 (fun v102 g102 k102 => ?_)
      obtain ⟨rfl, h102⟩ := k102
      replace h102 := h101.tr h102
      refine gh_istore C [some (.ref (y 0)), some (.int (nI m)), some (.int x), some (.int (nI e)), some (.int (nI a)), some (.int c7), some (.int (nI (X.1 1 + 1))), none] dR_change_144 rfl (Nat.le_of_ble_eq_true rfl) ?_
      refine gh_aload_n C dR_change_146 rfl ?_
      refine rw_get C h102 fR_41 rfl dR_change_147 ?_
      refine gh_iload_n C dR_change_150 rfl ?_
      refine gh_aload_n C dR_change_151 rfl ?_
      refine gh_iconst C 5 dR_change_152 (by decide) ?_
      refine gh_iload C dR_change_153 rfl ?_
      refine gh_iconst C 0 dR_change_155 (by decide) ?_
      refine gh_callV C [.int 5, .int (nI (X.1 1 + 1)), .int 0] (r_of l d _ h102.1 5 (nI (X.1 1 + 1)) 0 (by show X.1 1 + 1 + 1 < 2600; omega) (wf_of wf1 (by show X.1 1 + 1 ≤ 2600; omega) (by decide) (by decide) (by decide))) lR_221 wR_of vR_of h102.1.1 rfl rfl rfl (Nat.le_of_ble_eq_true rfl) ⟨Nat.le_of_ble_eq_true rfl, Nat.le_of_ble_eq_true rfl⟩ (Nat.le_of_ble_eq_true rfl) (Nat.le_of_ble_eq_true rfl) dR_change_156 (fun v103 g103 k103 => ?_)
      obtain ⟨rfl, h103⟩ := k103
      replace h103 := h102.tr h103
      refine rw_ist C h103 14 60 ⟨rfl, rfl, rfl, by decide⟩ (e) rfl (by omega) dR_change_159 (fun g104 h104 => ?_)
      have h104 : rQ g g104 y (ra (mkR (mkR (mkR X 6 (nI b) 0) 4 (nI (X.1 1)) c7) 5 (nI (X.1 1 + 1)) 0) 14 (upd ((mkR (mkR (mkR X 6 (nI b) 0) 4 (nI (X.1 1)) c7) 5 (nI (X.1 1 + 1)) 0).2 14) e (nI (X.1 1 + 2)))) := h104
      have e8 : ch8 X e c7 = (ra (mkR (mkR (mkR X 6 (nI b) 0) 4 (nI (X.1 1)) c7) 5 (nI (X.1 1 + 1)) 0) 14 (upd (X.2 14) e (nI (X.1 1 + 2)))) := by unfold ch8; rw [x14]
      have h8 := h104
      change rQ g _ y (ra (mkR (mkR (mkR X 6 (nI b) 0) 4 (nI (X.1 1)) c7) 5 (nI (X.1 1 + 1)) 0) 14 (upd (X.2 14) e (nI (X.1 1 + 2)))) at h8
      rw [← e8] at h8
      refine gh_aload_n C dR_change_160 rfl ?_
      refine gh_iload_n C dR_change_161 rfl ?_
      refine gh_iload C dR_change_162 rfl ?_
      refine gh_callV C [.int (nI e), .int (nI (X.1 1 + 1))] (r_welcome l d _ h8.1 e D (nI (X.1 1 + 1)) he (by rw [f8.1 12 (by decide)]; exact x12) (by rw [f8.2.1 13 (by decide) (by decide) (by decide) (by decide)]; exact x13) hD4 (by rw [f8.1 35 (by decide), x35]; exact hP) (by rw [f8.1 35 (by decide), f8.1 7 (by decide), x35, x7]; exact h7) (by rw [f8.1 35 (by decide), x35, f8.2.1 39 (by decide) (by decide) (by decide) (by decide), f8.2.1 40 (by decide) (by decide) (by decide) (by decide), x39, x40]; exact hua)) lR_257 wR_welcome vR_welcome h8.1.1 rfl rfl rfl (Nat.le_of_ble_eq_true rfl) ⟨Nat.le_of_ble_eq_true rfl, Nat.le_of_ble_eq_true rfl⟩ (Nat.le_of_ble_eq_true rfl) (Nat.le_of_ble_eq_true rfl) dR_change_164 (fun v105 g105 k105 => ?_)
      obtain ⟨rfl, h105⟩ := k105
      replace h105 := h8.tr h105
      rw [f8.1 35 (by decide)] at h105
      change rQ g _ y (ch9 X e D c7) at h105
      refine gh_aload_n C dR_change_167 rfl ?_
      refine gh_dup C dR_change_168 rfl ?_
      refine rw_get C h105 fR_151 rfl dR_change_169 ?_
      refine gh_ti (nI e) (by rw [f9.1 12 (by decide) (by decide), x12]) ?_
      refine gh_iconst C 1 dR_change_172 (by decide) ?_
      refine gh_iadd C dR_change_173 ?_
      refine gh_ti (nI (e + 1)) (nI_add e 1) ?_
      refine rw_put C h105 (e + 1) rfl pR_151 (by decide) rfl (by decide) (fun _ => rfl) (fun _ => rfl) dR_change_174 (fun g106 h106 => ?_)
      refine gh_iconst C 0 dR_change_177 (by decide) ?_
      refine gh_istore C [some (.ref (y 0)), some (.int (nI m)), some (.int x), some (.int (nI e)), some (.int (nI a)), some (.int c7), some (.int (nI (X.1 1 + 1))), some (.int 0)] dR_change_178 rfl (Nat.le_of_ble_eq_true rfl) ?_
      exact loop 16 0 _ _ _ (by omega) (by rw [eY]; exact h106)
    exact rest _ rfl h2
  have at100 : ∀ (g2 : gh_H), rQ g g2 y (ch6 R e a D0 x) → gh_W l d z 100 [some (.ref (y 0)), some (.int (nI m)), some (.int x), some (.int (nI e)), some (.int (nI a)), none, none, none] [] g2 0 0 := by
    intro g2 h2
    have hf6 := ch6_f R e a D0 x hD04
    have s21 : (ch6 R e a D0 x).2 21 e = if chp (ch5 R e a D0) e x then 1 else 0 := by
      unfold ch6; rw [ra_at]; simp [upd]
    have s13 : (ch6 R e a D0 x).2 13 e = nI D := hD
    have s12 : (ch6 R e a D0 x).1 12 = e := by rw [hf6.1]; exact hE
    have s1 : (ch6 R e a D0 x).1 1 < 2600 := by rw [hf6.1]; exact hN
    unfold ch7 at eT7 ec7
    rw [hdp5] at eT7 ec7
    obtain ⟨T6, eT6⟩ : ∃ T6, T6 = ch6 R e a D0 x := ⟨_, rfl⟩
    rw [← eT6] at h2 s21 s13 s12 s1 hpath eT7 ec7
    refine gh_aload_n C dR_change_100 rfl ?_
    refine rw_get C h2 fR_62 rfl dR_change_101 ?_
    refine gh_iload_n C dR_change_104 rfl ?_
    refine rw_zld C h2 21 60 ⟨rfl, rfl, rfl, by decide⟩ (e) rfl (by omega) dR_change_105 ?_
    refine gh_ti (if chp (ch5 R e a D0) e x then 1 else 0) s21 ?_
    refine gh_if_eq C 119 dR_change_106 (by decide) (fun c106 => ?_) (fun c106 => ?_)
    ·
      have hc : ¬ chp (ch5 R e a D0) e x := fun h => by rw [if_pos h] at c106; exact absurd c106 (by decide)
      rw [if_neg hc] at eT7 ec7
      refine gh_iconst C 0 dR_change_119 (by decide) ?_
      rw [show (0 : Int32) = c7 from ec7.symm]
      refine at120 (T6.1 48) (T6.2 49) (T6.2 50) _ ?_
      rw [show T7 = T6 from eT7, rs_self]
      exact h2
    ·
      have hc : chp (ch5 R e a D0) e x := by
        by_cases h : chp (ch5 R e a D0) e x
        · exact h
        · rw [if_neg h] at c106; exact absurd rfl c106
      rw [if_pos hc] at eT7 ec7
      obtain ⟨k1, k2, k3⟩ := hpath hc
      refine gh_aload_n C dR_change_109 rfl ?_
      refine gh_iload_n C dR_change_110 rfl ?_
      refine gh_iload C dR_change_111 rfl ?_
      refine gh_callV C [.int (nI e), .int (nI a)] (r_renew l d _ h2.1 e a D he ha s12 s13 hD4 s1 k1 ⟨k2, k3⟩) lR_254 wR_renew vR_renew h2.1.1 rfl rfl rfl (Nat.le_of_ble_eq_true rfl) ⟨Nat.le_of_ble_eq_true rfl, Nat.le_of_ble_eq_true rfl⟩ (Nat.le_of_ble_eq_true rfl) (Nat.le_of_ble_eq_true rfl) dR_change_113 (fun v101 g101 k101 => ?_)
      obtain ⟨rfl, n, F, O, h101⟩ := k101
      replace h101 := h2.tr h101
      rw [show nmR (rnL T6 e a D).1 (rnL T6 e a D).2 = T7 from eT7.symm] at h101
      rw [show nI ((rnL T6 e a D).1.1 1) = c7 from ec7.symm]
      refine gh_goto C 120 dR_change_116 (by decide) ?_
      exact at120 n F O _ h101
  refine gh_aload_n C dR_change_0 rfl ?_
  refine rw_get C h0 fR_151 rfl dR_change_1 ?_
  refine gh_ti (nI e) (by rw [hE]) ?_
  refine gh_istore_n C [some (.ref (y 0)), some (.int (nI m)), some (.int x), some (.int (nI e)), none, none, none, none] dR_change_4 rfl (Nat.le_of_ble_eq_true rfl) ?_
  refine gh_aload_n C dR_change_5 rfl ?_
  refine rw_get C h0 fR_83 rfl dR_change_6 ?_
  refine gh_iload_n C dR_change_9 rfl ?_
  refine rw_ild C h0 28 16 ⟨rfl, rfl, rfl, by decide⟩ (m) rfl (by omega) dR_change_10 ?_
  refine gh_ti (nI a) hL ?_
  refine gh_istore C [some (.ref (y 0)), some (.int (nI m)), some (.int x), some (.int (nI e)), some (.int (nI a)), none, none, none] dR_change_11 rfl (Nat.le_of_ble_eq_true rfl) ?_
  refine gh_aload_n C dR_change_13 rfl ?_
  refine gh_iload_n C dR_change_14 rfl ?_
  refine gh_iconst C 1 dR_change_15 (by decide) ?_
  refine gh_isub C dR_change_16 ?_
  refine gh_ti (nI (e - 1)) (pred_n he1) ?_
  refine gh_iload_n C dR_change_17 rfl ?_
  refine gh_callV C [.int (nI (e - 1)), .int (nI e)] (r_copyTree l d _ h0.1 (e - 1) e D0 (by omega) he hD0 hD04) lR_236 wR_copyTree vR_copyTree h0.1.1 rfl rfl rfl (Nat.le_of_ble_eq_true rfl) ⟨Nat.le_of_ble_eq_true rfl, Nat.le_of_ble_eq_true rfl⟩ (Nat.le_of_ble_eq_true rfl) (Nat.le_of_ble_eq_true rfl) dR_change_18 (fun v101 g101 k101 => ?_)
  obtain ⟨rfl, h101⟩ := k101
  replace h101 := h0.tr h101
  refine gh_aload_n C dR_change_21 rfl ?_
  refine rw_get C h101 fR_44 rfl dR_change_22 ?_
  refine gh_iload_n C dR_change_25 rfl ?_
  refine gh_iload C dR_change_26 rfl ?_
  refine rw_ist C h101 15 60 ⟨rfl, rfl, rfl, by decide⟩ (e) rfl (by omega) dR_change_28 (fun g102 h102 => ?_)
  have h102 : rQ g g102 y (ra (ctR R (e - 1) e D0) 15 (upd ((ctR R (e - 1) e D0).2 15) e (nI a))) := h102
  have h0b := h102
  change rQ g _ y (ch0 R e a D0) at h0b
  refine gh_aload_n C dR_change_29 rfl ?_
  refine gh_iload_n C dR_change_30 rfl ?_
  refine gh_iload C dR_change_31 rfl ?_
  refine gh_callV C [.int (nI e), .int (nI a)] (r_findRemoves l d _ h0b.1 e D0 a he he1 (by show upd (R.2 13) e (nI D0) (e - 1) = nI D0; simp only [upd, if_neg (show e - 1 ≠ e by omega)]; exact hD0) hD04 ha hW hp1) lR_239 wR_findRemoves vR_findRemoves h0b.1.1 rfl rfl rfl (Nat.le_of_ble_eq_true rfl) ⟨Nat.le_of_ble_eq_true rfl, Nat.le_of_ble_eq_true rfl⟩ (Nat.le_of_ble_eq_true rfl) (Nat.le_of_ble_eq_true rfl) dR_change_33 (fun v103 g103 k103 => ?_)
  obtain ⟨rfl, h103⟩ := k103
  replace h103 := h0b.tr h103
  refine gh_aload_n C dR_change_36 rfl ?_
  refine gh_iload_n C dR_change_37 rfl ?_
  refine gh_iload C dR_change_38 rfl ?_
  refine gh_callV C [.int (nI e), .int (nI a)] (r_findUpdates l d _ h103.1 e a he ha hW hpp hp2) lR_242 wR_findUpdates vR_findUpdates h103.1.1 rfl rfl rfl (Nat.le_of_ble_eq_true rfl) ⟨Nat.le_of_ble_eq_true rfl, Nat.le_of_ble_eq_true rfl⟩ (Nat.le_of_ble_eq_true rfl) (Nat.le_of_ble_eq_true rfl) dR_change_40 (fun v104 g104 k104 => ?_)
  obtain ⟨rfl, h104⟩ := k104
  replace h104 := h103.tr h104
  refine gh_aload_n C dR_change_43 rfl ?_
  refine gh_iload_n C dR_change_44 rfl ?_
  refine gh_callV C [.int (nI e)] (r_doRemoves l d _ h104.1 e D0 he (ch2_13 R e a D0) hD04) lR_245 wR_doRemoves vR_doRemoves h104.1.1 rfl rfl rfl (Nat.le_of_ble_eq_true rfl) ⟨Nat.le_of_ble_eq_true rfl, Nat.le_of_ble_eq_true rfl⟩ (Nat.le_of_ble_eq_true rfl) (Nat.le_of_ble_eq_true rfl) dR_change_45 (fun v105 g105 k105 => ?_)
  obtain ⟨rfl, h105⟩ := k105
  replace h105 := h104.tr h105
  refine gh_aload_n C dR_change_48 rfl ?_
  refine gh_iload_n C dR_change_49 rfl ?_
  refine gh_callV C [.int (nI e)] (r_doUpdates l d _ h105.1 e D3 he e3 (by omega)) lR_248 wR_doUpdates vR_doUpdates h105.1.1 rfl rfl rfl (Nat.le_of_ble_eq_true rfl) ⟨Nat.le_of_ble_eq_true rfl, Nat.le_of_ble_eq_true rfl⟩ (Nat.le_of_ble_eq_true rfl) (Nat.le_of_ble_eq_true rfl) dR_change_50 (fun v106 g106 k106 => ?_)
  obtain ⟨rfl, h106⟩ := k106
  replace h106 := h105.tr h106
  rw [← hdp3] at h106
  change rQ g _ y (ch4 R e a D0) at h106
  refine gh_aload_n C dR_change_53 rfl ?_
  refine gh_iload_n C dR_change_54 rfl ?_
  refine gh_callV C [.int (nI e)] (r_doAdds l d _ h106.1 e D4 he he1 e4 (by omega) (by rw [hf4.1]; exact hW) (fun i hi h9 => by
      rw [hf4.1] at hi
      rw [hf4.2.1 43 (by decide) (by decide) (by decide) (by decide) (by decide) (by decide) (by decide) (by decide) (by decide) (by decide)] at h9
      obtain ⟨p, q, k1, k2, k3, k4⟩ := hp0 i hi h9
      rw [hf4.2.1 45 (by decide) (by decide) (by decide) (by decide) (by decide) (by decide) (by decide) (by decide) (by decide) (by decide), hf4.2.1 36 (by decide) (by decide) (by decide) (by decide) (by decide) (by decide) (by decide) (by decide) (by decide) (by decide), hf4.2.1 27 (by decide) (by decide) (by decide) (by decide) (by decide) (by decide) (by decide) (by decide) (by decide) (by decide), hf4.2.1 28 (by decide) (by decide) (by decide) (by decide) (by decide) (by decide) (by decide) (by decide) (by decide) (by decide)]
      exact ⟨p, q, k1, k2, k3, k4, hlv q k3⟩)) lR_251 wR_doAdds vR_doAdds h106.1.1 rfl rfl rfl (Nat.le_of_ble_eq_true rfl) ⟨Nat.le_of_ble_eq_true rfl, Nat.le_of_ble_eq_true rfl⟩ (Nat.le_of_ble_eq_true rfl) (Nat.le_of_ble_eq_true rfl) dR_change_55 (fun v107 g107 k107 => ?_)
  obtain ⟨rfl, h107⟩ := k107
  replace h107 := h106.tr h107
  rw [hf4.1] at h107
  change rQ g _ y (ch5 R e a D0) at h107
  refine gh_aload_n C dR_change_58 rfl ?_
  refine rw_get C h107 fR_62 rfl dR_change_59 ?_
  refine gh_iload_n C dR_change_62 rfl ?_
  refine gh_iload_n C dR_change_63 rfl ?_
  refine gh_if_ne C 94 dR_change_64 (by decide) (fun c64 => ?_) (fun c64 => ?_)
  ·
    have hc : chp (ch5 R e a D0) e x := Or.inl c64
    refine gh_iconst C 1 dR_change_94 (by decide) ?_
    refine gh_goto C 99 dR_change_95 (by decide) ?_
    refine rw_zst C h107 21 60 ⟨rfl, rfl, rfl, by decide⟩ (e) rfl (by omega) rfl dR_change_99 (fun g108 h108 => ?_)
    have h108 : rQ g g108 y (ra (ch5 R e a D0) 21 (upd ((ch5 R e a D0).2 21) e 1)) := h108
    refine at100 _ ?_
    unfold ch6
    first
      | (rw [if_pos hc]; exact h108)
      | (rw [if_neg hc]; exact h108)
  ·
    refine gh_aload_n C dR_change_67 rfl ?_
    refine rw_get C h107 fR_50 rfl dR_change_68 ?_
    refine gh_iload_n C dR_change_71 rfl ?_
    refine rw_ild C h107 17 60 ⟨rfl, rfl, rfl, by decide⟩ (e) rfl (by omega) dR_change_72 ?_
    refine gh_if_ne C 94 dR_change_73 (by decide) (fun c73 => ?_) (fun c73 => ?_)
    ·
      have hc : chp (ch5 R e a D0) e x := Or.inr (Or.inl c73)
      refine gh_iconst C 1 dR_change_94 (by decide) ?_
      refine gh_goto C 99 dR_change_95 (by decide) ?_
      refine rw_zst C h107 21 60 ⟨rfl, rfl, rfl, by decide⟩ (e) rfl (by omega) rfl dR_change_99 (fun g109 h109 => ?_)
      have h109 : rQ g g109 y (ra (ch5 R e a D0) 21 (upd ((ch5 R e a D0).2 21) e 1)) := h109
      refine at100 _ ?_
      unfold ch6
      first
        | (rw [if_pos hc]; exact h109)
        | (rw [if_neg hc]; exact h109)
    ·
      refine gh_aload_n C dR_change_76 rfl ?_
      refine rw_get C h107 fR_53 rfl dR_change_77 ?_
      refine gh_iload_n C dR_change_80 rfl ?_
      refine rw_ild C h107 18 60 ⟨rfl, rfl, rfl, by decide⟩ (e) rfl (by omega) dR_change_81 ?_
      refine gh_if_ne C 94 dR_change_82 (by decide) (fun c82 => ?_) (fun c82 => ?_)
      ·
        have hc : chp (ch5 R e a D0) e x := Or.inr (Or.inr (Or.inl c82))
        refine gh_iconst C 1 dR_change_94 (by decide) ?_
        refine gh_goto C 99 dR_change_95 (by decide) ?_
        refine rw_zst C h107 21 60 ⟨rfl, rfl, rfl, by decide⟩ (e) rfl (by omega) rfl dR_change_99 (fun g110 h110 => ?_)
        have h110 : rQ g g110 y (ra (ch5 R e a D0) 21 (upd ((ch5 R e a D0).2 21) e 1)) := h110
        refine at100 _ ?_
        unfold ch6
        first
          | (rw [if_pos hc]; exact h110)
          | (rw [if_neg hc]; exact h110)
      ·
        refine gh_aload_n C dR_change_85 rfl ?_
        refine rw_get C h107 fR_56 rfl dR_change_86 ?_
        refine gh_iload_n C dR_change_89 rfl ?_
        refine rw_ild C h107 19 60 ⟨rfl, rfl, rfl, by decide⟩ (e) rfl (by omega) dR_change_90 ?_
        refine gh_if_ne C 98 dR_change_91 (by decide) (fun c91 => ?_) (fun c91 => ?_)
        ·
          have hc : ¬ chp (ch5 R e a D0) e x := fun h => h.elim (fun k => k c64) (fun h => h.elim (fun k => k c73) (fun h => h.elim (fun k => k c82) c91))
          refine gh_iconst C 0 dR_change_98 (by decide) ?_
          refine rw_zst C h107 21 60 ⟨rfl, rfl, rfl, by decide⟩ (e) rfl (by omega) rfl dR_change_99 (fun g111 h111 => ?_)
          have h111 : rQ g g111 y (ra (ch5 R e a D0) 21 (upd ((ch5 R e a D0).2 21) e 0)) := h111
          refine at100 _ ?_
          unfold ch6
          first
            | (rw [if_pos hc]; exact h111)
            | (rw [if_neg hc]; exact h111)
        ·
          have hc : chp (ch5 R e a D0) e x := Or.inr (Or.inr (Or.inr c91))
          refine gh_iconst C 1 dR_change_94 (by decide) ?_
          refine gh_goto C 99 dR_change_95 (by decide) ?_
          refine rw_zst C h107 21 60 ⟨rfl, rfl, rfl, by decide⟩ (e) rfl (by omega) rfl dR_change_99 (fun g112 h112 => ?_)
          have h112 : rQ g g112 y (ra (ch5 R e a D0) 21 (upd ((ch5 R e a D0).2 21) e 1)) := h112
          refine at100 _ ?_
          unfold ch6
          first
            | (rw [if_pos hc]; exact h112)
            | (rw [if_neg hc]; exact h112)
theorem adR_f (T : SR) (m e a D : Nat) (b : Int32) : (adR T m e a D b).1 = T.1 ∧ ∀ f, f ≠ 27 → f ≠ 29 → f ≠ 31 → f ≠ 33 → (adR T m e a D b).2 f = T.2 f := by
  have hk : (adK T m e a D).1 = T.1 ∧ ∀ f, f ≠ 27 → f ≠ 29 → f ≠ 31 → f ≠ 33 → (adK T m e a D).2 f = T.2 f := ⟨rfl, fun f h1 h2 h3 h4 => by simp [adK, kpR, ad0, ra, h1, h2, h3, h4]⟩
  unfold adR
  by_cases hc : b ≠ 0 ∧ 0 < D
  · rw [if_pos hc]
    have h1 := tlR_f (adK T m e a D) m e a 1 D
    exact ⟨h1.1.trans hk.1, fun f k1 k2 k3 k4 => (h1.2 f k4).trans (hk.2 f k1 k2 k3 k4)⟩
  · rw [if_neg hc]; exact hk
theorem chE_12 (X : SR) (m e a D : Nat) (c : Int32) : (chE X m e a D c).1 12 = e + 1 := by
  unfold chE
  show (adR _ m e a D _).1 12 = e + 1
  rw [(adR_f _ m e a D _).1, (lvL_f _ e 16).1]
  simp [ri]
set_option maxRecDepth 100000 in
set_option maxHeartbeats 4000000 in
theorem r_commit (l : Launch) (d : gh_D) (g : gh_H) {y : Nat → Nat} {R : SR} (hR : rR g y R) (m e a D0 D b : Nat) (x : Int32) (hm : m < 16) (he1 : 1 ≤ e) (he : e < 60) (hE : R.1 12 = e) (hL : R.2 28 m = nI a) (ha : a < 16) (hD0 : R.2 13 (e - 1) = nI D0) (hD04 : D0 ≤ 4) (hW : R.1 42 ≤ 20) (hP : R.1 35 ≤ 60) (hp0 : ∀ i, i < R.1 42 → R.2 43 i = 0 → ∃ p q, p < 60 ∧ R.2 45 i = nI p ∧ q < 16 ∧ R.2 36 p = nI q) (hp1 : ∀ i, i < R.1 42 → R.2 43 i = 1 → ∃ b, b < 16 ∧ R.2 45 i = nI b) (hpp : ∀ i, i < R.1 42 → ∃ q, q < 16 ∧ R.2 44 i = nI q) (hp2 : ∀ i, i < R.1 42 → R.2 43 i = 2 → ∃ b, b < 16 ∧ R.2 28 (R.2 44 i).toNatClampNeg = nI b) (hlv : ∀ q, q < 16 → R.2 27 q = nI (e - 1) → ∃ c, c < 16 ∧ R.2 28 q = nI c) (hD : (ch5 (ri R 0 0) e a D0).2 13 e = nI D) (hD4 : D ≤ 4) (hN : R.1 1 < 2600) (hpath : chp (ch5 (ri R 0 0) e a D0) e x → (∀ h, h < D → rnP (rnL (ch6 (ri R 0 0) e a D0 x) e a h).1 e a h (rnL (ch6 (ri R 0 0) e a D0 x) e a h).2) ∧ (rnL (ch6 (ri R 0 0) e a D0 x) e a D).1.1 1 < 2600 ∧ ((rnL (ch6 (ri R 0 0) e a D0 x) e a D).2 ≠ -1 → noF (rnL (ch6 (ri R 0 0) e a D0 x) e a D).1 2 (rnL (ch6 (ri R 0 0) e a D0 x) e a D).2)) (hwf : wfF (ch7 (ri R 0 0) e a D0 x).1) (hN3 : (ch7 (ri R 0 0) e a D0 x).1.1 1 + 3 ≤ 2600) (hse : R.2 14 (e - 1) = nI b) (hb : b < (ch7 (ri R 0 0) e a D0 x).1.1 1) (hno6 : noF (ch7 (ri R 0 0) e a D0 x).1 6 (nI b)) (h7 : (ch7 (ri R 0 0) e a D0 x).1.1 7 + 2 * R.1 35 ≤ 3600) (hua : ∀ p, p < R.1 35 → (ch5 (ri R 0 0) e a D0).2 39 p = nI e → ∃ c, c < 16 ∧ (ch5 (ri R 0 0) e a D0).2 40 p = nI c) (hmine : (ch5 (ri R 0 0) e a D0).2 17 e &&& bitN a = 0) (hlat : R.2 27 m = nI (e - 1)) : gh_C l d mR_commit (rr 5 0 0) [.ref (y 0), .int (nI m), .int x] g (fun v g1 => v = some (.int (nI e)) ∧ ∃ (n : Nat) (F O : Nat → Int32), rQ g g1 y (chE (rs (ch7 (ri R 0 0) e a D0 x).1 n F O) m e a D (ch7 (ri R 0 0) e a D0 x).2)) := by
  refine gh_of [some (.ref (y 0)), some (.int (nI m)), some (.int x)] (by decide) rfl (Nat.le_of_ble_eq_true rfl) (by simp [Value.category]) (fun z C hQ => ?_)
  show gh_W l d z 0 [some (.ref (y 0)), some (.int (nI m)), some (.int x)] [] g 0 0
  have h0 := rQ.rf hR
  refine gh_aload_n C dR_commit_0 rfl ?_
  refine gh_iload_n C dR_commit_1 rfl ?_
  refine gh_bipush C 16 dR_commit_2 (by decide) ?_
  refine gh_callS C [.int (nI m), .int 16] (r_inn l d _ 16 (nI m)) lR_264 wR_in sR_in rfl rfl (Nat.le_of_ble_eq_true rfl) ⟨Nat.le_of_ble_eq_true rfl, Nat.le_of_ble_eq_true rfl⟩ (Nat.le_of_ble_eq_true rfl) (Nat.le_of_ble_eq_true rfl) dR_commit_4 (fun v101 g101 k101 => ?_)
  obtain ⟨rfl, e101⟩ := k101
  subst g101
  rw [if_pos (inn_n hm (by decide))]
  refine gh_if_ne C 14 dR_commit_7 (by decide) (fun c7 => ?_) (fun c7 => ?_)
  ·
    refine gh_aload_n C dR_commit_14 rfl ?_
    refine gh_iload_n C dR_commit_15 rfl ?_
    refine gh_callV C [.int (nI m)] (r_isLatest l d _ h0.1 m hm (by omega)) lR_267 wR_isLatest vR_isLatest h0.1.1 rfl rfl rfl (Nat.le_of_ble_eq_true rfl) ⟨Nat.le_of_ble_eq_true rfl, Nat.le_of_ble_eq_true rfl⟩ (Nat.le_of_ble_eq_true rfl) (Nat.le_of_ble_eq_true rfl) dR_commit_16 (fun v102 g102 k102 => ?_)
    obtain ⟨rfl, e102⟩ := k102
    subst g102
    rw [if_pos (show latR R m = true by unfold latR; rw [hlat, hE]; simp)]
    refine gh_if_eq C 31 dR_commit_19 (by decide) (fun c19 => ?_) (fun c19 => ?_)
    · exact absurd c19 (by decide)
    ·
      refine gh_aload_n C dR_commit_22 rfl ?_
      refine rw_get C h0 fR_151 rfl dR_commit_23 ?_
      refine gh_ti (nI e) (by rw [hE]) ?_
      refine gh_bipush C 60 dR_commit_26 (by decide) ?_
      refine gh_icmp_ne C 35 dR_commit_28 (by decide) (fun c28 => ?_) (fun c28 => ?_)
      ·
        refine gh_iconst C 0 dR_commit_35 (by decide) ?_
        refine rw_put C h0 (0) rfl pR_155 (by decide) rfl (by decide) (fun _ => rfl) (fun _ => rfl) dR_commit_36 (fun g103 h103 => ?_)
        refine gh_aload_n C dR_commit_39 rfl ?_
        refine rw_get C h103 fR_155 rfl dR_commit_40 ?_
        refine gh_ti (nI (0)) rfl ?_
        refine gh_if_le C 48 dR_commit_43 (by decide) (fun c43 => ?_) (fun c43 => ?_)
        ·
          refine gh_aload_n C dR_commit_48 rfl ?_
          refine gh_iload_n C dR_commit_49 rfl ?_
          refine gh_iload_n C dR_commit_50 rfl ?_
          refine gh_callV C [.int (nI m), .int x] (r_change l d _ h103.1 m e a D0 D b x hm he1 he hE hL ha hD0 hD04 hW hP hp0 hp1 hpp hp2 hlv hD hD4 hN hpath hwf hN3 hse hb hno6 h7 hua hmine) lR_277 wR_change vR_change h103.1.1 rfl rfl rfl (Nat.le_of_ble_eq_true rfl) ⟨Nat.le_of_ble_eq_true rfl, Nat.le_of_ble_eq_true rfl⟩ (Nat.le_of_ble_eq_true rfl) (Nat.le_of_ble_eq_true rfl) dR_commit_51 (fun v104 g104 k104 => ?_)
          obtain ⟨rfl, n, F, O, h104⟩ := k104
          replace h104 := h103.tr h104
          refine gh_aload_n C dR_commit_54 rfl ?_
          refine rw_get C h104 fR_151 rfl dR_commit_55 ?_
          refine gh_ti (nI (e + 1)) (by rw [chE_12]) ?_
          refine gh_iconst C 1 dR_commit_58 (by decide) ?_
          refine gh_isub C dR_commit_59 ?_
          refine gh_ti (nI e) (nI_pred e) ?_
          refine gh_iret C hQ rfl dR_commit_60 ?_
          exact ⟨rfl, n, F, O, h104⟩
        · exact absurd (by decide) c43
      · exact absurd ((nI_eq (b := 60) (by omega) (by omega)).mp c28) (by omega)
  · exact absurd c7 (by decide)
