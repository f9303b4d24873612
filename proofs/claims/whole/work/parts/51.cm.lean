/-! COMMIT: the states on its way -/
def nwS (S : SC) (e : Nat) (lf : Int32) : SC := (fun a b => if a = 2 ∧ b = e then S.1 2 (e - 1) else S.1 a b, fun c i => if (4 ≤ c ∧ c ≤ 10) ∧ i = e then (if c = 4 then lf else if c = 5 then -1 else 0) else S.2.1 c i, fun c i => if (2 ≤ c ∧ c ≤ 4) ∧ i = e then S.2.2 c (e - 1) else S.2.2 c i)
def zE (Z : ZC) (e a t ka ba ua : Nat) : ZC := fun k i => if k = 12 ∧ i = e then a else if k = 13 ∧ i = e then t else if k = 14 ∧ i = e then ka else if k = 15 ∧ i = e then ba else if k = 16 ∧ i = e then ua else Z k i
theorem zE_o (Z : ZC) {e a t ka ba ua i : Nat} (h : i ≠ e) (k : Nat) : zE Z e a t ka ba ua k i = Z k i := by simp [zE, h]
theorem zE_k (Z : ZC) {e a t ka ba ua k : Nat} (h : k < 12 ∨ 16 < k) (i : Nat) : zE Z e a t ka ba ua k i = Z k i := by
  simp [zE, show k ≠ 12 by omega, show k ≠ 13 by omega, show k ≠ 14 by omega, show k ≠ 15 by omega, show k ≠ 16 by omega]
theorem cA.nw {g g2 : gh_H} {Z : ZC} {S : SC} {e a t ka ba ua : Nat} {lf : Int32} (h : cA g Z S e) (hE : sE S = e) (hk : ∀ k : gh_K, k.1 < 12 ∨ (16 < k.1 ∧ k.1 < 60) → g2 k = g k) (hi : ∀ k i, 12 ≤ k → k ≤ 16 → i ≠ e → g2 (k, i) = g (k, i))
    (he : pE g2 e a t (nI e) lf (-1) 0 0 0 0 0) (ht : pT g2 e (S.1 2 (e - 1)) t ka ba ua (S.2.2 2 (e - 1)) (S.2.2 3 (e - 1)) (S.2.2 4 (e - 1))) : cA g2 (zE Z e a t ka ba ua) (nwS S e lf) (e + 1) := by
  obtain ⟨hG, hS, hM, ⟨⟨q, q1, q2⟩, h3⟩, hK, ⟨qp, yp, hq1, hq2⟩, hO, ⟨hh, hH⟩, ok⟩ := h
  have hf : fr (fun k => !(decide (k < 12) || (decide (16 < k) && decide (k < 60)))) g g2 := fun k hk1 => hk k (by
    simp at hk1
    omega)
  refine ⟨?_, ?_, ?_, ⟨⟨q, ?_, fun i hi1 => ?_⟩, fun i hi1 => ?_⟩, ?_, ⟨qp, yp, ?_, fun j hj => ?_⟩, ?_, ⟨hh, ?_⟩, ok⟩
  · exact hG.fr hf rfl
  · exact hS.fr hf (by decide)
  · exact hM.fr hf (by decide)
  · exact hf.at rfl q1
  · have hi2 : i < sE S := hi1
    rw [zE_o Z (by omega)]; exact q2 i hi2
  · by_cases hie : i = e
    · subst hie
      have e1 : (zE Z i a t ka ba ua) 12 i = a := by simp [zE]
      have e2 : (zE Z i a t ka ba ua) 13 i = t := by simp [zE]
      have e3 : (zE Z i a t ka ba ua) 14 i = ka := by simp [zE]
      have e4 : (zE Z i a t ka ba ua) 15 i = ba := by simp [zE]
      have e5 : (zE Z i a t ka ba ua) 16 i = ua := by simp [zE]
      unfold cE1
      rw [e1, e2, e3, e4, e5]
      simpa [nwS] using ⟨he, ht⟩
    · have h4 := h3 i (by omega)
      unfold cE1 at h4 ⊢
      rw [zE_o Z hie, zE_o Z hie, zE_o Z hie, zE_o Z hie, zE_o Z hie]
      have h5 : pE g2 i (Z 12 i) (Z 13 i) (nI i) (S.2.1 4 i) (S.2.1 5 i) (S.2.1 6 i) (S.2.1 7 i) (S.2.1 8 i) (S.2.1 9 i) (S.2.1 10 i) := (hi 12 i (by decide) (by decide) hie).trans h4.1
      have h6 : pT g2 i (S.1 2 i) (Z 13 i) (Z 14 i) (Z 15 i) (Z 16 i) (S.2.2 2 i) (S.2.2 3 i) (S.2.2 4 i) := ⟨(hi 13 i (by decide) (by decide) hie).trans h4.2.1, (hi 14 i (by decide) (by decide) hie).trans h4.2.2.1, (hi 15 i (by decide) (by decide) hie).trans h4.2.2.2.1, (hi 16 i (by decide) (by decide) hie).trans h4.2.2.2.2.1, h4.2.2.2.2.2⟩
      simpa [nwS, hie] using ⟨h5, h6⟩
  · exact hK.fr hf (by decide)
  · exact hf.at rfl hq1
  · exact ⟨(hq2 j hj).1, hf.at rfl (hq2 j hj).2⟩
  · exact hO.fr hf rfl
  · exact hf.at rfl hH
theorem cA.mb {g : gh_H} {Z : ZC} {S : SC} {n m : Nat} (h : cA g Z S n) (hm : m < 16) (ep lf sec stk : Int32) (uc : Nat) (f : Nat → Int32) : cA (mst g m (Z 8 m) (Z 9 m) (Z 10 m) ep lf sec stk uc f) Z (mbS S m ep lf sec stk uc f) n := by
  have hf : fr (fun k => k == 8 || k == 9) g (mst g m (Z 8 m) (Z 9 m) (Z 10 m) ep lf sec stk uc f) := fr_mst rfl rfl
  exact ⟨h.1.fr hf (by decide), h.2.1.fr hf (by decide), cM_mst h.2.2.1 hm _ _ _ _ _ _, h.2.2.2.1.fr hf (by decide), h.2.2.2.2.1.fr hf (by decide), h.2.2.2.2.2.1.fr hf (by decide), h.2.2.2.2.2.2.1.fr hf (by decide), h.2.2.2.2.2.2.2.1.fr hf (by decide), h.2.2.2.2.2.2.2.2⟩
theorem cA.q0 {g : gh_H} {Z : ZC} {S : SC} {n : Nat} (h : cA g Z S n) : cA (gh_u g (1, 0) (Z 1 0, .inr (0, [.ref (Z 2 0), .ref (Z 7 0), .ref (Z 11 0), .int (nI (sE S)), .ref (Z 17 0), .int (nI (sP S)), .ref (Z 19 0), .int 0, .ref (Z 21 0), .ref (Z 22 0)]))) Z (stN S 0 2 0) n := by
  have hf : fr (fun k => k == 1) g (gh_u g (1, 0) (Z 1 0, .inr (0, [.ref (Z 2 0), .ref (Z 7 0), .ref (Z 11 0), .int (nI (sE S)), .ref (Z 17 0), .int (nI (sP S)), .ref (Z 19 0), .int 0, .ref (Z 21 0), .ref (Z 22 0)]))) := fr.rf.u rfl
  refine ⟨gh_us, h.2.1.fr hf (by decide), h.2.2.1.fr hf (by decide), h.2.2.2.1.fr hf (by decide), h.2.2.2.2.1.fr hf (by decide), ?_, h.2.2.2.2.2.2.1.fr hf (by decide), h.2.2.2.2.2.2.2.1.fr hf (by decide), h.2.2.2.2.2.2.2.2⟩
  obtain ⟨q, y, h1, h2⟩ := h.2.2.2.2.2.1
  exact ⟨q, y, (gh_un (gh_kd (by decide))).trans h1, fun j hj => absurd hj (Nat.not_lt_zero j)⟩
/-- what the intruder knows is written anew -/
theorem cA.out {g g1 : gh_H} {Z : ZC} {S : SC} {n : Nat} {o : Nat → Int32} (h : cA g Z S n) (hp : pS g1 (Z 2 0) (sN S) (sR S) o (S.2.1 22) (S.2.1 23) (S.2.1 24)) (ok : okS (sN S) (sR S) o (S.2.1 22) (S.2.1 23) (S.2.1 24)) (hf : fr kS g g1) : cA g1 Z (sv1 S 21 o) n :=
  ⟨h.1.fr hf (by decide), hp, h.2.2.1.fr hf (by decide), h.2.2.2.1.fr hf (by decide), h.2.2.2.2.1.fr hf (by decide), h.2.2.2.2.2.1.fr hf (by decide), h.2.2.2.2.2.2.1.fr hf (by decide), h.2.2.2.2.2.2.2.1.fr hf (by decide), ok⟩
def cm0 (S : SC) (m : Nat) : SC := nwS S (sE S) (S.2.1 1 m)
def cm1 (S : SC) (m : Nat) : SC := rmS (cm0 S m) (sE S)
def cm2 (S : SC) (m : Nat) : SC := upL (cm1 S m) (sE S) (sQ S)
def cm3 (S : SC) (m : Nat) : SC := adL (cm2 S m) (sE S) (sQ S)
abbrev cmp (S : SC) (e : Nat) (x : Int32) : Prop := x ≠ 0 ∨ S.2.1 7 e ≠ 0 ∨ S.2.1 8 e ≠ 0 ∨ S.2.1 9 e = 0
def cm4 (S : SC) (m : Nat) (x : Int32) : SC × Int32 := if cmp (cm3 S m) (sE S) x then mpS (cm3 S m) (sE S) (S.2.1 1 m).toNatClampNeg ((cm3 S m).1 2 (sE S)) else (cm3 S m, 0)
def cm5 (S : SC) (m : Nat) (x : Int32) : SC := opS (cm4 S m x).1 (sE S) (cm4 S m x).2
def mvS (S : SC) (m e a : Nat) : SC := mbS S m (nI e) (nI a) (nsec (S.2.1 2 m) (S.2.1 5 e)) (S.2.1 3 m) 0 (lrq (S.1 2 e) (S.2.2 2 e) (S.2.1 6 e) a (lowc (S.1 2 e) (S.2.1 6 e) a) (upd (drp (S.1 2 e) (S.2.2 2 e) a (S.2.2 0 m) 5) 0 (S.2.2 2 e (2 * a))))
def cm6 (S : SC) (m : Nat) (x : Int32) : SC := mvS (cm5 S m x) m (sE S) (S.2.1 1 m).toNatClampNeg
def spV (S : SC) (k : Nat) : SC := sv1 S 21 (spr (sN S) (S.2.1 22) (S.2.1 23) (S.2.1 24) (sR S - k) k (S.2.1 21))
def cm7 (S : SC) (m : Nat) (x : Int32) : SC := spV (stN (cm6 S m x) 0 2 0) (sR S)
