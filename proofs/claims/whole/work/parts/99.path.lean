/-! THE PATH keeps step -/
theorem TI_set {D : Nat} {K U : Nat → Int32} (h : TI D K U) {v : Nat} {k : Int32} (hv : v < 31) (hw : v < tW D) (hk : k ≠ -1 ∨ hgt v ≠ 0) : TI D (upd K v k) (upd U v 0) := by
  refine ⟨h.1, fun w hw31 => ⟨fun h1 => ?_, fun h1 => ?_, fun l hl hb => ?_⟩⟩
  · simp only [upd]; rw [if_neg (by omega)]; exact (h.2 w hw31).1 h1
  · simp only [upd] at h1 ⊢
    by_cases e : w = v
    · rw [if_pos e]
    · rw [if_neg e] at h1 ⊢; exact (h.2 w hw31).2.1 h1
  · simp only [upd] at hb ⊢
    by_cases e : w = v
    · rw [if_pos e, tb_0] at hb; cases hb
    · rw [if_neg e] at hb
      obtain ⟨g1, g2, g3, g4⟩ := (h.2 w hw31).2.2 l hl hb
      refine ⟨g1, g2, g3, ?_⟩
      by_cases e2 : 2 * l = v
      · rw [if_pos e2]
        rcases hk with hk | hk
        · exact hk
        · have := (by decide : ∀ l, l < 16 → hgt (2 * l) = 0) l g1
          rw [e2] at this; exact absurd this hk
      · rw [if_neg e2]; exact g4
theorem TI_c {D : Nat} {K U K1 U1 : Nat → Int32} (h : TI D K U) (hc : ∀ v, v < 31 → K1 v = K v ∧ U1 v = U v) : TI D K1 U1 := by
  refine ⟨h.1, fun v hv => ?_⟩
  rw [(hc v hv).1, (hc v hv).2]
  refine ⟨(h.2 v hv).1, (h.2 v hv).2.1, fun l hl hb => ?_⟩
  obtain ⟨g1, g2, g3, g4⟩ := (h.2 v hv).2.2 l hl hb
  exact ⟨g1, g2, g3, by rw [(hc (2 * l) (by omega)).1]; exact g4⟩
theorem sd_off1 : ∀ a, a < 16 → ∀ h, h < 4 → ∀ i, i ≤ 4 → ¬ (sdn a h + 1 ≤ pn a i + 2 ^ h ∧ pn a i + 1 ≤ sdn a h + 2 ^ h) := by decide +kernel
theorem sd_off {a h r : Nat} (ha : a < 16) (hh : h < 4) (hr : inR h (sdn a h) r) : ∀ i, i ≤ 4 → r ≠ pn a i := fun i hi e => by
  rw [e] at hr
  exact sd_off1 a ha h hh i hi hr
theorem sd_in : ∀ D, D ≤ 4 → ∀ a, a < 2 ^ D → ∀ h, h < D → sdn a h < tW D := by decide +kernel
def wfS (X : SR) : Prop := ∀ i, i < X.1 1 → X.2 2 i = 4 → ∃ b, b < i ∧ X.2 4 i = nI b
theorem wfS_mk {X : SR} {k p : Int32} (hw : wfS X) (q : Int32) (hk : k ≠ 4 ∨ ∃ b, b < X.1 1 ∧ q = nI b) : wfS (mkR X k p q) := by
  intro i hi h0
  have hi : i < X.1 1 + 1 := hi
  by_cases e : i = X.1 1
  · subst e
    have e2 : (mkR X k p q).2 2 (X.1 1) = k := by simp [mkR, ra, ri, upd]
    rw [e2] at h0
    rcases hk with hk | ⟨b, hb, hq⟩
    · exact absurd h0 hk
    · exact ⟨b, hb, by rw [hq]; simp [mkR, ra, ri, upd]⟩
  · have e2 : (mkR X k p q).2 2 i = X.2 2 i := by simp [mkR, ra, ri, upd, e]
    have e3 : (mkR X k p q).2 4 i = X.2 4 i := by simp [mkR, ra, ri, upd, e]
    rw [e2] at h0
    rw [e3]
    exact hw i (by omega) h0
theorem wf_mk1 {X : SR} {p q : Int32} (hw : wfF X) : wfF (mkR X 1 p q) := by
  intro i hi h0 h1
  have hi : i < X.1 1 + 1 := hi
  by_cases e : i = X.1 1
  · subst e; exact absurd (by simp [mkR, ra, ri, upd]) h1
  · have e2 : (mkR X 1 p q).2 2 i = X.2 2 i := by simp [mkR, ra, ri, upd, e]
    have e3 : (mkR X 1 p q).2 3 i = X.2 3 i := by simp [mkR, ra, ri, upd, e]
    rw [e2] at h0 h1
    rw [e3]
    exact hw i (by omega) h0 h1
theorem wf_sm {X T : SR} (hw : wfF X) (h1 : T.1 1 = X.1 1) (h2 : T.2 2 = X.2 2) (h3 : T.2 3 = X.2 3) : wfF T := by unfold wfF at hw ⊢; rw [h1, h2, h3]; exact hw
theorem wfS_sm {X T : SR} (hw : wfS X) (h1 : T.1 1 = X.1 1) (h2 : T.2 2 = X.2 2) (h3 : T.2 4 = X.2 4) : wfS T := by unfold wfS at hw ⊢; rw [h1, h2, h3]; exact hw
theorem ruR_sm {X T : SR} (h1 : T.1 1 = X.1 1) (h7 : T.1 7 = X.1 7) (h : ∀ f, f = 2 ∨ f = 3 ∨ f = 4 ∨ f = 8 ∨ f = 9 → T.2 f = X.2 f) (x y z : Int32) : ruR T x y z ↔ ruR X x y z := by
  unfold ruR; rw [h1, h7, h 2 (by omega), h 3 (by omega), h 4 (by omega), h 8 (by omega), h 9 (by omega)]
theorem pcN_c {S T : SC} {e : Nat} {sel sel1 : Nat → Bool} (h14 : T.2.1 14 = S.2.1 14) (hs : sel1 = sel) : ∀ n, pcN T e sel1 n = pcN S e sel n := by
  intro n
  induction n with
  | zero => rfl
  | succ n ih => simp only [pcN]; rw [h14, hs, ← ih, hs]
def PH (S : SC) (T : SR) (e a D N0 : Nat) : Prop :=
  (a < 16 ∧ a < 2 ^ D ∧ e < 60) ∧ TE S T e e D ∧ TI D (rK T e) (rU T e) ∧ (sN S = N0 ∧ T.1 1 = N0 ∧ 1 ≤ N0) ∧ (S.2.1 9 e = T.2 19 e ∧ ∀ l, l < 32 → tb (T.2 19 e) l = true → l < 16) ∧ (S.2.1 6 e = T.2 16 e ∧ T.2 16 e = 0) ∧ S.2.1 10 e = T.2 20 e ∧ (∀ x y z, ruC S x y z ↔ ruR T x y z) ∧ ordC S ∧ wfF T ∧ wfS T ∧ (∀ v, v < 31 → rK T e v = -1 ∨ ∃ k, k < N0 ∧ rK T e v = nI k) ∧ (sP S = T.1 35 ∧ ∀ p, p < T.1 35 → S.2.1 14 p = T.2 39 p ∧ S.2.1 12 p = T.2 37 p ∧ (∃ k, k < N0 ∧ T.2 37 p = nI k) ∧ (T.2 39 p = nI e → S.2.1 15 p = T.2 40 p ∧ ∃ l, l < 16 ∧ T.2 40 p = nI l)) ∧ T.1 12 = e ∧ N0 + 12 ≤ 2600 ∧ T.1 7 + 26 ≤ 3600
def pkT (S : SC) (T : SR) (e a : Nat) : Nat → Nat
  | 0 => 0
  | h + 1 => if rsv (rK T e) (rU T e) h (sdn a h) = [] then pkT S T e a h else pkT S T e a h + pcN S e (selH S h (sdn a h)) (sP S)
def PA (S : SC) (T : SR) (e a D N0 h : Nat) (X : SC) (Y : SR) (p : Int32) : Prop :=
  (sN X = Y.1 1 ∧ N0 + 1 ≤ Y.1 1 ∧ Y.1 1 ≤ N0 + 1 + 2 * h) ∧ TE X Y e e D ∧ X.2.1 6 e = Y.2 16 e ∧
  ((∀ v, v < 31 → (∀ i, i ≤ h → v ≠ pn a i) → rK Y e v = rK T e v ∧ rU Y e v = rU T e v) ∧ (rK Y e (2 * a) = nI N0 ∧ rU Y e (2 * a) = 0) ∧ (∀ i, 1 ≤ i → i ≤ h → rU Y e (pn a i) = 0 ∧ ((rK Y e (pn a i) = -1 ∧ tb (Y.2 16 e) (pn a i) = false ∧ rsv (rK T e) (rU T e) (i - 1) (sdn a (i - 1)) = []) ∨ (∃ k, rK Y e (pn a i) = nI k ∧ N0 < k ∧ k < Y.1 1 ∧ tb (Y.2 16 e) (pn a i) = true ∧ rsv (rK T e) (rU T e) (i - 1) (sdn a (i - 1)) ≠ []))) ∧ (∀ i j, i < j → j ≤ h → rK Y e (pn a i) = rK Y e (pn a j) → rK Y e (pn a j) = -1) ∧ ∀ v, v < 32 → tb (Y.2 16 e) v = true → ∃ i, 1 ≤ i ∧ i ≤ h ∧ v = pn a i) ∧
  (p = -1 ∨ ∃ s, p = nI s ∧ Y.1 1 = s + 2 ∧ Y.2 2 (s + 1) = 3 ∧ N0 < s) ∧ (wfF Y ∧ wfS Y) ∧ TI D (rK Y e) (rU Y e) ∧
  (∀ x y z, ruC X x y z ↔ ruR Y x y z ∨ ∃ i, i < T.1 35 ∧ T.2 39 i = nI e ∧ (∃ j, j < h ∧ rsv (rK T e) (rU T e) j (sdn a j) ≠ [] ∧ pn (T.2 40 i).toNatClampNeg j = sdn a j ∧ z = Y.2 25 (31 * e + pn a (j + 1))) ∧ x = T.2 37 i ∧ y = -1) ∧
  X.2.1 10 e = Y.2 20 e + nI (pkT S T e a h) ∧ ordC X ∧
  (Y.1 7 + h + 2 ≤ T.1 7 + 2 ^ (h + 1) ∧ enx T Y ∧ ∀ i, 1 ≤ i → i ≤ h → tb (Y.2 16 e) (pn a i) = true → ∀ r, r ∈ rsv (rK T e) (rU T e) (i - 1) (sdn a (i - 1)) → ¬ rsk T e r → ∃ k, k < Y.1 7 ∧ Y.2 8 k = rK T e r ∧ Y.2 10 k = nI e ∧ Y.2 11 k = nI (pn a i)) ∧
  sR X + T.1 1 + T.1 7 ≤ sR S + Y.1 1 + Y.1 7 + pkT S T e a h ∧ (∀ i, 1 ≤ i → i ≤ h → rsv (rK T e) (rU T e) (i - 1) (sdn a (i - 1)) ≠ [] → ∃ s, s < Y.1 1 ∧ Y.2 25 (31 * e + pn a i) = nI s)
theorem gv_K (X : SC) (e v : Nat) (k b : Int32) : (gvS X e v k b).2.2 2 e = upd (X.2.2 2 e) v k ∧ (gvS X e v k b).2.2 3 e = upd (X.2.2 3 e) v b ∧ (gvS X e v k b).2.2 4 e = upd (X.2.2 4 e) v 0 ∧ (gvS X e v k b).1 = X.1 ∧ (gvS X e v k b).2.1 = X.2.1 := ⟨by simp [gvS, trS, st2], by simp [gvS, trS, st2], by simp [gvS, trS, st2], rfl, rfl⟩
theorem TE_gv {X : SC} {Y : SR} {e D v : Nat} {k : Int32} (h : TE X Y e e D) {b : Int32} (Y1 : SR) (h13 : Y1.2 13 e = nI D) (hK : rK Y1 e = upd (rK Y e) v k) (hU : rU Y1 e = upd (rU Y e) v 0) (hB : ∀ w, w < 31 → w ≠ v → Y1.2 24 (31 * e + w) = Y.2 24 (31 * e + w)) (hb : b = if k = -1 then -1 else Y1.2 24 (31 * e + v)) : TE (gvS X e v k b) Y1 e e D := by
  obtain ⟨g1, g2, g3, g4, g5⟩ := gv_K X e v k b
  refine ⟨by rw [g4]; exact h.1, h13, fun w hw => ?_⟩
  rw [g1, g2, g3, hK, hU]
  simp only [upd]
  obtain ⟨q1, q2, q3⟩ := h.2.2 w hw
  by_cases e9 : w = v
  · subst e9; simp [hb]
  · simp only [if_neg e9]; exact ⟨q1, q2, by rw [q3, hB w hw e9]⟩
