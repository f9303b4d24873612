/-! a member's keys behind a move -/
def mvk (D : Nat) (K : Nat → Int32) (cn : Int32) (a i : Nat) (x : Int32) : Int32 := if tb cn (pn a i) = true then tk D K (pn a i) else if x = tk D K (pn a i) then x else -1
theorem lowc_mn {D : Nat} {cn : Int32} {a h : Nat} (ha : a < 16) (hD : D ≤ 4) (hh : lowc D cn a = some h) : tb cn (pn a (h + 1)) = true ∧ ∀ j, j < h → tb cn (pn a (j + 1)) = false := by
  have hlt := lowc_lt hh
  unfold lowc at hh
  rw [List.find?_range_eq_some] at hh
  obtain ⟨h1, -, h3⟩ := hh
  refine ⟨?_, fun j hj => ?_⟩
  · simp only [decide_eq_true_eq] at h1
    exact (and_bit' (by have := pn_31 a ha (h + 1) (by omega); omega)).mp h1
  · have := h3 j hj
    simp only [Bool.not_eq_true', decide_eq_false_iff_not, ne_eq, Decidable.not_not] at this
    exact (and_bit (by have := pn_31 a ha (j + 1) (by omega); omega)).mp this
theorem lowc_nn {D : Nat} {cn : Int32} {a : Nat} (ha : a < 16) (hD : D ≤ 4) (hh : lowc D cn a = none) : ∀ j, j < D → tb cn (pn a (j + 1)) = false := by
  intro j hj
  unfold lowc at hh
  rw [List.find?_eq_none] at hh
  have := hh j (List.mem_range.mpr hj)
  simp only [decide_eq_true_eq, ne_eq, Decidable.not_not] at this
  exact (and_bit (by have := pn_31 a ha (j + 1) (by omega); omega)).mp this
theorem hi_bit {D : Nat} {cn : Int32} {a i : Nat} (ha : a < 16) (hD : D ≤ 4) (hb : ∀ v, v < 32 → tb cn v = true → v < tW D) (h1 : D < i) (h4 : i ≤ 4) : tb cn (pn a i) = false := by
  cases h : tb cn (pn a i) with
  | false => rfl
  | true =>
    have h9 := hb _ (by have := pn_31 a ha i h4; omega) h
    have h8 := hgt_tw D hD _ (pn_31 a ha i h4) h9
    rw [hgt_pn i h4 a ha] at h8
    omega
theorem lrq_c {D : Nat} {K : Nat → Int32} {cn : Int32} {a i : Nat} {g : Nat → Int32} (ha : a < 16) (hD : D ≤ 4) (hb : ∀ v, v < 32 → tb cn v = true → v < tW D) (h1 : 1 ≤ i) (h4 : i ≤ 4) : lrq D K cn a (lowc D cn a) g i = if tb cn (pn a i) = true then tk D K (pn a i) else g i := by
  have h31 := pn_31 a ha i h4
  cases hw : lowc D cn a with
  | none =>
    have hn := lowc_nn ha hD hw
    have : tb cn (pn a i) = false := by
      by_cases hi : i ≤ D
      · have := hn (i - 1) (by omega)
        rwa [Nat.sub_add_cancel h1] at this
      · exact hi_bit ha hD hb (by omega) h4
    show g i = _
    rw [this]; rfl
  | some h =>
    obtain ⟨-, hm⟩ := lowc_mn ha hD hw
    show (if h + 1 ≤ i ∧ i < 5 ∧ cn &&& bitN (pn a i) ≠ 0 then tk D K (pn a i) else g i) = _
    by_cases hc : tb cn (pn a i) = true
    · have hle : h + 1 ≤ i := by
        by_cases q : h + 1 ≤ i
        · exact q
        · have := hm (i - 1) (by omega)
          rw [Nat.sub_add_cancel h1, hc] at this; cases this
      rw [if_pos ⟨hle, by omega, (and_bit' (by omega)).mpr hc⟩, if_pos hc]
    · rw [if_neg (fun q => hc ((and_bit' (by omega)).mp q.2.2)), if_neg hc]
theorem lrq_0 {D : Nat} {K : Nat → Int32} {cn : Int32} {a : Nat} {w : Option Nat} {g : Nat → Int32} : lrq D K cn a w g 0 = g 0 := by
  cases w with
  | none => rfl
  | some h =>
    show (if h + 1 ≤ 0 ∧ 0 < 5 ∧ cn &&& bitN (pn a 0) ≠ 0 then tk D K (pn a 0) else g 0) = g 0
    rw [if_neg (fun q => by omega)]
theorem tl_c (T : SR) (m e a h0 : Nat) (ha : a < 16) : ∀ c, h0 + c ≤ 5 → (∀ i, i ≤ 4 → (tlR T m e a h0 c).2 33 (31 * m + pn a i) = if (h0 ≤ i ∧ i < h0 + c) ∧ tb (T.2 16 e) (pn a i) = true then rK T e (pn a i) else T.2 33 (31 * m + pn a i)) ∧ ∀ j, (∀ i, i ≤ 4 → j ≠ 31 * m + pn a i) → (tlR T m e a h0 c).2 33 j = T.2 33 j := by
  intro c
  induction c with
  | zero => intro _; exact ⟨fun i _ => by rw [if_neg (fun q => by omega)]; rfl, fun j _ => rfl⟩
  | succ c ih =>
    intro hc
    obtain ⟨i1, i2⟩ := ih (by omega)
    have h31 := pn_31 a ha (h0 + c) (by omega)
    obtain ⟨Y, eY⟩ : ∃ Y, Y = tlR T m e a h0 c := ⟨_, rfl⟩
    have es : tlR T m e a h0 (c + 1) = if T.2 16 e &&& bitN (pn a (h0 + c)) = 0 then Y else ra Y 33 (upd (Y.2 33) (31 * m + pn a (h0 + c)) (T.2 22 (31 * e + pn a (h0 + c)))) := by rw [eY]; rfl
    rw [← eY] at i1 i2
    rw [es]
    by_cases hb : T.2 16 e &&& bitN (pn a (h0 + c)) = 0
    · have hb2 := (and_bit (by omega)).mp hb
      rw [if_pos hb]
      refine ⟨fun i hi => ?_, i2⟩
      rw [i1 i hi]
      by_cases q : i = h0 + c
      · subst q; rw [hb2]; simp
      · by_cases w : (h0 ≤ i ∧ i < h0 + c) ∧ tb (T.2 16 e) (pn a i) = true
        · rw [if_pos w, if_pos ⟨by omega, w.2⟩]
        · rw [if_neg w, if_neg (fun z => w ⟨by omega, z.2⟩)]
    · have hb2 := (and_bit' (by omega)).mp hb
      rw [if_neg hb]
      refine ⟨fun i hi => ?_, fun j hj => ?_⟩
      · rw [ra_at]
        simp only [upd]
        by_cases q : i = h0 + c
        · subst q; rw [if_pos rfl, if_pos ⟨by omega, hb2⟩]; rfl
        · have : 31 * m + pn a i ≠ 31 * m + pn a (h0 + c) := fun w => q (pn_in a ha i hi (h0 + c) (by omega) (by omega))
          rw [if_neg this, i1 i hi]
          by_cases w : (h0 ≤ i ∧ i < h0 + c) ∧ tb (T.2 16 e) (pn a i) = true
          · rw [if_pos w, if_pos ⟨by omega, w.2⟩]
          · rw [if_neg w, if_neg (fun z => w ⟨by omega, z.2⟩)]
      · rw [ra_at]
        simp only [upd]
        rw [if_neg (hj (h0 + c) (by omega))]; exact i2 j hj
theorem adK_c (T : SR) (m e a D : Nat) (ha : a < 16) (hD : D ≤ 4) : (∀ i, 1 ≤ i → i ≤ 4 → (adK T m e a D).2 33 (31 * m + pn a i) = if T.2 33 (31 * m + pn a i) = tk D (rK T e) (pn a i) then T.2 33 (31 * m + pn a i) else -1) ∧ (∀ v, v < 31 → (∀ i, 1 ≤ i → i ≤ 4 → v ≠ pn a i) → (adK T m e a D).2 33 (31 * m + v) = -1) ∧ ∀ j, (j < 31 * m ∨ 31 * m + 31 ≤ j) → (adK T m e a D).2 33 j = T.2 33 j := by
  have e0 : (adK T m e a D).2 33 = kpF m a D 31 (rK T e) (T.2 33) := rfl
  rw [e0]
  refine ⟨fun i h1 h4 => ?_, fun v hv hn => ?_, fun j hj => ?_⟩
  · have h31 := pn_31 a ha i h4
    have hh := hgt_pn i h4 a ha
    simp only [kpF]
    rw [show 31 * m + pn a i - 31 * m = pn a i by omega]
    unfold tk
    by_cases hw : pn a i < tW D
    · rw [if_pos hw]
      have hm : mine a D (pn a i) := ⟨hw, by omega, by rw [hh]⟩
      by_cases q : T.2 33 (31 * m + pn a i) = rK T e (pn a i)
      · rw [if_pos q, if_neg (fun w => w.2 ⟨hm, q.symm⟩)]
      · rw [if_neg q, if_pos ⟨by omega, fun w => q w.2.symm⟩]
    · rw [if_neg hw, if_pos ⟨by omega, fun w => hw w.1.1⟩]
      by_cases q : T.2 33 (31 * m + pn a i) = -1
      · rw [if_pos q, q]
      · rw [if_neg q]
  · simp only [kpF]
    have key : ¬ (mine a D v ∧ rK T e v = T.2 33 (31 * m + v)) := fun w => ?_
    · rw [show 31 * m + v - 31 * m = v by omega, if_pos ⟨by omega, key⟩]
    have h9 := w.1.2.1
    have h8 : hgt v ≤ 4 := (hgt_le v hv).1
    exact hn (hgt v) h9 h8 w.1.2.2.symm
  · simp only [kpF]
    rw [if_neg (fun w => by omega)]
