/-! THE CLASS'S WHOLE HEAP, and what a commit does to the tree -/
def cA (g : gh_H) (Z : ZC) (S : SC) (n : Nat) : Prop := cG g Z S ∧ cS g Z S ∧ cM g Z S ∧ cE g Z S n ∧ cK g Z S ∧ cP g Z S ∧ cO g Z S ∧ cH g Z ∧ okC S
def kA (k : Nat) : Bool := decide (k < 23) || decide (60 ≤ k)
theorem kA_f {k : Nat} (h : kA k = false) : 23 ≤ k ∧ k < 60 := by
  simp only [kA, Bool.or_eq_false_iff, decide_eq_false_iff_not] at h
  omega
theorem kS_kA {k : Nat} (h : kA k = false) : kS k = false := by
  have := kA_f h
  simp [kS]; omega
theorem kD_kA {k : Nat} (h : kA k = false) : kD k = false := by
  have := kA_f h
  simp [kD]; omega
theorem kN_kA {k : Nat} (h : kA k = false) : kN k = false := by
  have := kA_f h
  simp [kN, kS]; omega
theorem kT_kA {k : Nat} (h : kA k = false) : kT k = false := by
  have := kA_f h
  simp [kT]; omega
theorem kP_kA {k : Nat} (h : kA k = false) : kP k = false := by
  have := kA_f h
  simp [kP]; omega
theorem kMP_kA {k : Nat} (h : kA k = false) : kMP k = false := by
  have := kA_f h
  simp [kMP, kN, kS]; omega
/-- the tree of an epoch is written, the depth too -/
def dpS (S : SC) (e D : Nat) (K B U : Nat → Int32) : SC := stN (trS S e K B U) 2 e D
theorem cE_tst {g : gh_H} {Z : ZC} {S : SC} {n e : Nat} (h : cE g Z S n) (D : Nat) (hD : D ≤ 4) (K B U : Nat → Int32) : cE (tst g e D (Z 13 e) (Z 14 e) (Z 15 e) (Z 16 e) K B U) Z (dpS S e D K B U) n := by
  obtain ⟨⟨q, q1, q2⟩, h3⟩ := cE_tset (e := e) h K B U
  refine ⟨⟨q, (gh_un (gh_kd (by decide))).trans q1, q2⟩, fun i hi => ?_⟩
  have h4 := h3 i hi
  by_cases hie : i = e
  · subst hie
    refine ⟨(gh_un (gh_kd (by decide))).trans h4.1, ?_, (gh_un (gh_kd (by decide))).trans h4.2.2.1, (gh_un (gh_kd (by decide))).trans h4.2.2.2.1, (gh_un (gh_kd (by decide))).trans h4.2.2.2.2.1, ?_⟩
    · rw [show (dpS S i D K B U).1 2 i = D by simp [dpS, stN]]; exact gh_us
    · rw [show (dpS S i D K B U).1 2 i = D by simp [dpS, stN]]; exact hD
  · have e1 : (dpS S e D K B U).1 2 i = (trS S e K B U).1 2 i := by simp [dpS, stN, hie]
    refine ⟨(gh_un (gh_kd (by decide))).trans h4.1, ?_, (gh_un (gh_kd (by decide))).trans h4.2.2.1, (gh_un (gh_kd (by decide))).trans h4.2.2.2.1, (gh_un (gh_kd (by decide))).trans h4.2.2.2.2.1, ?_⟩
    · rw [e1]; exact (gh_un (gh_kx hie)).trans h4.2.1
    · rw [e1]; exact h4.2.2.2.2.2
theorem cA.fq {P : Nat → Bool} {g g1 : gh_H} {Z : ZC} {S : SC} {n : Nat} (h : cA g Z S n) (hf : fr P g g1) (hP : ∀ k, k < 23 → P k = false) : cA g1 Z S n :=
  ⟨h.1.fr hf (hP 1 (by decide)), h.2.1.fr hf ⟨hP _ (by decide), hP _ (by decide), hP _ (by decide), hP _ (by decide), hP _ (by decide)⟩, h.2.2.1.fr hf ⟨hP _ (by decide), hP _ (by decide), hP _ (by decide), hP _ (by decide)⟩, h.2.2.2.1.fr hf ⟨hP _ (by decide), hP _ (by decide), hP _ (by decide), hP _ (by decide), hP _ (by decide), hP _ (by decide)⟩, h.2.2.2.2.1.fr hf ⟨hP _ (by decide), hP _ (by decide)⟩, h.2.2.2.2.2.1.fr hf ⟨hP _ (by decide), hP _ (by decide)⟩, h.2.2.2.2.2.2.1.fr hf (hP _ (by decide)), h.2.2.2.2.2.2.2.1.fr hf (hP _ (by decide)), h.2.2.2.2.2.2.2.2⟩
theorem cA.tr {g : gh_H} {Z : ZC} {S : SC} {n e : Nat} (h : cA g Z S n) (K B U : Nat → Int32) : cA (tset g e (Z 14 e) (Z 15 e) (Z 16 e) K B U) Z (trS S e K B U) n := by
  have hf : fr kT2 g (tset g e (Z 14 e) (Z 15 e) (Z 16 e) K B U) := fr_tset rfl rfl rfl
  exact ⟨h.1.fr hf (by decide), h.2.1.fr hf (by decide), h.2.2.1.fr hf (by decide), cE_tset h.2.2.2.1 K B U, h.2.2.2.2.1.fr hf (by decide), h.2.2.2.2.2.1.fr hf (by decide), h.2.2.2.2.2.2.1.fr hf (by decide), h.2.2.2.2.2.2.2.1.fr hf (by decide), h.2.2.2.2.2.2.2.2⟩
def kT3 (k : Nat) : Bool := k == 13 || k == 14 || k == 15 || k == 16
theorem cA.dp {g : gh_H} {Z : ZC} {S : SC} {n e : Nat} (h : cA g Z S n) (D : Nat) (hD : D ≤ 4) (K B U : Nat → Int32) : cA (tst g e D (Z 13 e) (Z 14 e) (Z 15 e) (Z 16 e) K B U) Z (dpS S e D K B U) n := by
  have hf : fr kT3 g (tst g e D (Z 13 e) (Z 14 e) (Z 15 e) (Z 16 e) K B U) := (fr_tset rfl rfl rfl).u rfl
  exact ⟨h.1.fr hf (by decide), h.2.1.fr hf (by decide), h.2.2.1.fr hf (by decide), cE_tst h.2.2.2.1 D hD K B U, h.2.2.2.2.1.fr hf (by decide), h.2.2.2.2.2.1.fr hf (by decide), h.2.2.2.2.2.2.1.fr hf (by decide), h.2.2.2.2.2.2.2.1.fr hf (by decide), h.2.2.2.2.2.2.2.2⟩
theorem cA.ep {g : gh_H} {Z : ZC} {S : SC} {n e : Nat} (h : cA g Z S n) (c : Nat) (x : Int32) (hc : 4 ≤ c ∧ c ≤ 10) : cA (gh_u g (12, e) (Z 12 e, .inr (3, [.int (nI e), .ref (Z 13 e), .int ((st1 S c e x).2.1 4 e), .int ((st1 S c e x).2.1 5 e), .int ((st1 S c e x).2.1 6 e), .int ((st1 S c e x).2.1 7 e), .int ((st1 S c e x).2.1 8 e), .int ((st1 S c e x).2.1 9 e), .int ((st1 S c e x).2.1 10 e)]))) Z (st1 S c e x) n := by
  have hx := cX.ep (e := e) ⟨h.1, h.2.1, h.2.2.2.1, h.2.2.2.2.1, h.2.2.2.2.2.2.2.2⟩ c x hc
  have hf : fr (fun k => k == 12) g (gh_u g (12, e) (Z 12 e, .inr (3, [.int (nI e), .ref (Z 13 e), .int ((st1 S c e x).2.1 4 e), .int ((st1 S c e x).2.1 5 e), .int ((st1 S c e x).2.1 6 e), .int ((st1 S c e x).2.1 7 e), .int ((st1 S c e x).2.1 8 e), .int ((st1 S c e x).2.1 9 e), .int ((st1 S c e x).2.1 10 e)]))) := fr.rf.u rfl
  have ha : ∀ k, k < 4 ∨ 10 < k → (st1 S c e x).2.1 k = S.2.1 k := fun k hk => by
    funext i
    simp [st1, show k ≠ c by omega]
  refine ⟨hx.1, hx.2.1, ?_, hx.2.2.1, hx.2.2.2.1, ?_, ?_, h.2.2.2.2.2.2.2.1.fr hf (by decide), hx.2.2.2.2⟩
  · obtain ⟨h1, h2⟩ := h.2.2.1.fr hf (by decide)
    refine ⟨h1, fun m hm => ?_⟩
    have := h2 m hm
    unfold cM1 at this ⊢
    rw [ha 0 (by omega), ha 1 (by omega), ha 2 (by omega), ha 3 (by omega)]
    exact this
  · obtain ⟨q, y, h1, h2⟩ := h.2.2.2.2.2.1.fr hf (by decide)
    refine ⟨q, y, h1, ?_⟩
    rw [ha 17 (by omega), ha 18 (by omega), ha 19 (by omega)]
    exact h2
  · have := h.2.2.2.2.2.2.1.fr hf (by decide)
    unfold cO at this ⊢
    rw [ha 20 (by omega)]
    exact this
/-- what a dismissal leaves as it was -/
def dq (S S1 : SC) : Prop := S1.1 0 = S.1 0 ∧ S1.1 2 = S.1 2 ∧ (∀ c, 4 ≤ c → c ≠ 20 → S1.2.1 c = S.2.1 c) ∧ ∀ c, 2 ≤ c → S1.2.2 c = S.2.2 c
theorem dq_dm (S : SC) (a : Nat) : dq S (dmS S a) := by
  have h1 : dq S (st1 S 20 a (-1)) := ⟨rfl, rfl, fun c _ h => by
    funext i
    simp [st1, h], fun _ _ => rfl⟩
  unfold dmS
  split
  · refine ⟨rfl, rfl, fun c h3 h4 => ?_, fun c h3 => ?_⟩
    · funext i
      simp [lvS, mbS, st1, st2, stN, h4, show c ≠ 0 by omega, show c ≠ 1 by omega, show c ≠ 2 by omega, show c ≠ 3 by omega]
    · funext i
      simp [lvS, mbS, st1, st2, stN, show c ≠ 0 by omega]
  · exact h1
theorem cA.dq {g g1 : gh_H} {Z : ZC} {S S1 : SC} {n : Nat} (h : cA g Z S n) (hs : dq S S1) (hM : cM g1 Z S1) (hO : cO g1 Z S1) (hf : fr kD g g1) : cA g1 Z S1 n := by
  refine ⟨?_, ?_, hM, ?_, ?_, ?_, hO, h.2.2.2.2.2.2.2.1.fr hf (by decide), ?_⟩
  · have := h.1.fr hf (by decide)
    unfold cG sE sP sQ at this ⊢
    rw [hs.1]; exact this
  · have := h.2.1.fr hf (by decide)
    unfold cS sN sR at this ⊢
    rw [hs.1, hs.2.2.1 21 (by decide) (by decide), hs.2.2.1 22 (by decide) (by decide), hs.2.2.1 23 (by decide) (by decide), hs.2.2.1 24 (by decide) (by decide)]; exact this
  · obtain ⟨⟨q, q1, q2⟩, h3⟩ := h.2.2.2.1.fr hf (by decide)
    refine ⟨⟨q, q1, by unfold sE; rw [hs.1]; exact q2⟩, fun i hi => ?_⟩
    have := h3 i hi
    unfold cE1 at this ⊢
    rw [hs.2.1, hs.2.2.1 4 (by decide) (by decide), hs.2.2.1 5 (by decide) (by decide), hs.2.2.1 6 (by decide) (by decide), hs.2.2.1 7 (by decide) (by decide), hs.2.2.1 8 (by decide) (by decide), hs.2.2.1 9 (by decide) (by decide), hs.2.2.1 10 (by decide) (by decide), hs.2.2.2 2 (by decide), hs.2.2.2 3 (by decide), hs.2.2.2 4 (by decide)]
    exact this
  · obtain ⟨⟨q, q1, q2⟩, h3⟩ := h.2.2.2.2.1.fr hf (by decide)
    refine ⟨⟨q, q1, by unfold sP; rw [hs.1]; exact q2⟩, fun i hi => ?_⟩
    have := h3 i (by unfold sP at hi ⊢; rw [hs.1] at hi; exact hi)
    unfold cK1 at this ⊢
    rw [hs.2.2.1 11 (by decide) (by decide), hs.2.2.1 12 (by decide) (by decide), hs.2.2.1 13 (by decide) (by decide), hs.2.2.1 14 (by decide) (by decide), hs.2.2.1 15 (by decide) (by decide), hs.2.2.1 16 (by decide) (by decide)]
    exact this
  · obtain ⟨q, y, h1, h2⟩ := h.2.2.2.2.2.1.fr hf (by decide)
    refine ⟨q, y, h1, ?_⟩
    unfold sQ
    rw [hs.1, hs.2.2.1 17 (by decide) (by decide), hs.2.2.1 18 (by decide) (by decide), hs.2.2.1 19 (by decide) (by decide)]
    exact h2
  · have := h.2.2.2.2.2.2.2.2
    unfold okC sN sR at this ⊢
    rw [hs.1, hs.2.2.1 21 (by decide) (by decide), hs.2.2.1 22 (by decide) (by decide), hs.2.2.1 23 (by decide) (by decide), hs.2.2.1 24 (by decide) (by decide)]; exact this
/-! the REMOVEs -/
theorem tset_o20 (g : gh_H) (e ka ba ua : Nat) (K B U : Nat → Int32) (i : Nat) : tset g e ka ba ua K B U (20, i) = g (20, i) := by unfold tset; rw [gh_un (gh_kd (by decide)), gh_un (gh_kd (by decide)), gh_un (gh_kd (by decide))]
def rmD (S : SC) (e a : Nat) : SC := dmS (st1 (trS S e (bl a (S.1 2 e + 1) (-1) (S.2.2 2 e)) (bl a (S.1 2 e + 1) (-1) (S.2.2 3 e)) (bl a (S.1 2 e + 1) 0 (S.2.2 4 e))) 7 e (S.2.1 7 e ||| bitN a)) a
abbrev rmQ (S : SC) (e i : Nat) : Prop := S.2.1 17 i = 1 ∧ S.2.1 18 i ≠ S.2.1 4 e ∧ tk (S.1 2 e) (S.2.2 2 e) (2 * (S.2.1 18 i).toNatClampNeg) ≠ -1
def rmL (S : SC) (e : Nat) : Nat → SC
  | 0 => S
  | i + 1 => if rmQ (rmL S e i) e i then rmD (rmL S e i) e ((rmL S e i).2.1 18 i).toNatClampNeg else rmL S e i
def shS (S : SC) (e : Nat) : SC := dpS S e (shr (S.2.2 2 e) (S.1 2 e)) (cut (tW (shr (S.2.2 2 e) (S.1 2 e))) (tW (S.1 2 e)) (-1) (S.2.2 2 e)) (cut (tW (shr (S.2.2 2 e) (S.1 2 e))) (tW (S.1 2 e)) (-1) (S.2.2 3 e)) (cut (tW (shr (S.2.2 2 e) (S.1 2 e))) (tW (S.1 2 e)) 0 (S.2.2 4 e))
def rmS (S : SC) (e : Nat) : SC := shS (rmL S e (sQ S)) e
def rq (S S1 : SC) : Prop := S1.1 0 = S.1 0 ∧ S1.1 2 = S.1 2 ∧ (∀ c, 4 ≤ c → c ≠ 7 → c ≠ 20 → S1.2.1 c = S.2.1 c)
theorem rq_rmD (S : SC) (e a : Nat) : rq S (rmD S e a) := by
  have h := dq_dm (st1 (trS S e (bl a (S.1 2 e + 1) (-1) (S.2.2 2 e)) (bl a (S.1 2 e + 1) (-1) (S.2.2 3 e)) (bl a (S.1 2 e + 1) 0 (S.2.2 4 e))) 7 e (S.2.1 7 e ||| bitN a)) a
  refine ⟨h.1, h.2.1, fun c h1 h2 h3 => (h.2.2.1 c h1 h3).trans ?_⟩
  funext i
  simp [st1, trS, st2, h2]
theorem rq_rmL (S : SC) (e : Nat) : ∀ i, rq S (rmL S e i)
  | 0 => ⟨rfl, rfl, fun _ _ _ _ => rfl⟩
  | i + 1 => by
    have h := rq_rmL S e i
    unfold rmL
    split
    · have h2 := rq_rmD (rmL S e i) e ((rmL S e i).2.1 18 i).toNatClampNeg
      exact ⟨h2.1.trans h.1, h2.2.1.trans h.2.1, fun c h3 h4 h5 => (h2.2.2 c h3 h4 h5).trans (h.2.2 c h3 h4 h5)⟩
    · exact h
theorem leaf_of_w {D a : Nat} (h : 2 * a < tW D) : a < 2 ^ D := by
  unfold tW at h
  have : 2 ^ (D + 1) = 2 * 2 ^ D := by rw [Nat.pow_succ]; omega
  omega
set_option maxRecDepth 100000 in
set_option maxHeartbeats 4000000 in
theorem c_doRemoves (l : Launch) (d : gh_D) (g : gh_H) {Z : ZC} {S : SC} {n : Nat} (hA : cA g Z S n) (e : Nat) (he : e < n) (hE1 : 1 ≤ sE S) (hQ20 : sQ S ≤ 20) (hab : ∀ i, i < sQ S → S.2.1 17 i = 1 → ∃ a, a < 16 ∧ S.2.1 18 i = nI a) : gh_C l d mG_doRemoves (rr 4 0 0) [.ref (Z 1 0), .ref (Z 12 e)] g (fun v g1 => v = none ∧ cA g1 Z (rmS S e) n ∧ fr kA g g1) := by
  refine gh_of [some (.ref (Z 1 0)), some (.ref (Z 12 e)), none, none] (by decide) rfl (Nat.le_of_ble_eq_true rfl) (by simp [Value.category]) (fun z C hQ => ?_)
  show gh_W l d z 0 [some (.ref (Z 1 0)), some (.ref (Z 12 e)), none, none] [] g 0 0
  have loop : ∀ (c i : Nat) (g1 : gh_H) (y3 : Option Value), i + c = sQ S → cA g1 Z (rmL S e i) n → fr kA g g1 → gh_W l d z 2 [some (.ref (Z 1 0)), some (.ref (Z 12 e)), some (.int (nI i)), y3] [] g1 0 0 := by
    intro c
    induction c with
    | zero =>
      intro i g1 y3 hi hA1 hf1
      have hi : i = sQ S := by omega
      have hrq := rq_rmL S e i
      have eQ : sQ (rmL S e i) = sQ S := by unfold sQ; rw [hrq.1]
      obtain ⟨T1, eT1⟩ : ∃ T1, T1 = (rmL S e i) := ⟨_, rfl⟩
      have eS : rmS S e = shS T1 e := by rw [eT1, hi]; rfl
      rw [← eT1] at hA1 eQ
      obtain ⟨qp, yp, hqp, hqp2⟩ := id hA1.2.2.2.2.2.1
      have hw := hA1.2.2.2.1.2 e he
      refine gh_iload_n C dG_doRemoves_2 rfl ?_
      refine gh_aload_n C dG_doRemoves_3 rfl ?_
      refine gh_get C fG_152 hA1.1 rfl dG_doRemoves_4 ?_
      refine gh_icmp_ge C 95 dG_doRemoves_7 (by decide) (fun c7 => ?_) (fun c7 => ?_)
      ·
        refine gh_aload_n C dG_doRemoves_95 rfl ?_
        refine gh_get C fG_60 hw.1 rfl dG_doRemoves_96 ?_
        refine gh_callV C [] (c_shrink l d _ hw.2) lG_245 wT_shrink vT_shrink hw.2.1 rfl rfl rfl (Nat.le_of_ble_eq_true rfl) ⟨Nat.le_of_ble_eq_true rfl, Nat.le_of_ble_eq_true rfl⟩ (Nat.le_of_ble_eq_true rfl) (Nat.le_of_ble_eq_true rfl) dG_doRemoves_99 (fun v99 g99 h99 => ?_)
        obtain ⟨rfl, rfl⟩ := h99
        refine gh_vret C hQ rfl dG_doRemoves_102 ?_
        exact ⟨rfl, by rw [eS]; exact hA1.dp _ (Nat.le_trans (shr_le _ _) hw.2.2.2.2.2) _ _ _, hf1.trans (((fr_tset rfl rfl rfl).u rfl))⟩
      · exact absurd (show nI (sQ T1) ≤ nI i from nI_le (by omega) (by omega)) c7
    | succ c ih =>
      intro i g1 y3 hi hA1 hf1
      have hlt0 : i < sQ S := by omega
      have hrq := rq_rmL S e i
      have eQ : sQ (rmL S e i) = sQ S := by unfold sQ; rw [hrq.1]
      have eE : sE (rmL S e i) = sE S := by unfold sE; rw [hrq.1]
      have e17 : (rmL S e i).2.1 17 = S.2.1 17 := hrq.2.2 17 (by decide) (by decide) (by decide)
      have e18 : (rmL S e i).2.1 18 = S.2.1 18 := hrq.2.2 18 (by decide) (by decide) (by decide)
      have eN : rmL S e (i + 1) = if rmQ (rmL S e i) e i then rmD (rmL S e i) e ((rmL S e i).2.1 18 i).toNatClampNeg else (rmL S e i) := rfl
      have inc : ∀ (g2 : gh_H) (y3 : Option Value), cA g2 Z (rmL S e (i + 1)) n → fr kA g g2 → gh_W l d z 89 [some (.ref (Z 1 0)), some (.ref (Z 12 e)), some (.int (nI i)), y3] [] g2 0 0 := by
        intro g2 y3 hA2 hf2
        refine gh_iinc C (nI (i + 1)) [some (.ref (Z 1 0)), some (.ref (Z 12 e)), some (.int (nI (i + 1))), y3] dG_doRemoves_89 rfl (gh_inc i) rfl ?_
        refine gh_goto C 2 dG_doRemoves_92 (by decide) ?_
        exact ih (i + 1) g2 _ (by omega) hA2 hf2
      obtain ⟨T1, eT1⟩ : ∃ T1, T1 = (rmL S e i) := ⟨_, rfl⟩
      rw [← eT1] at hA1 eQ eE e17 e18 eN
      have hlt : i < sQ T1 := by omega
      obtain ⟨qp, yp, hqp, hqp2⟩ := id hA1.2.2.2.2.2.1
      have hw := hA1.2.2.2.1.2 e he
      refine gh_iload_n C dG_doRemoves_2 rfl ?_
      refine gh_aload_n C dG_doRemoves_3 rfl ?_
      refine gh_get C fG_152 hA1.1 rfl dG_doRemoves_4 ?_
      refine gh_icmp_ge C 95 dG_doRemoves_7 (by decide) (fun c7 => ?_) (fun c7 => ?_)
      · exact absurd c7 (show ¬ nI (sQ T1) ≤ nI i from nI_ge (by omega) (by omega))
      ·
        refine gh_aload_n C dG_doRemoves_10 rfl ?_
        refine gh_get C fG_36 hA1.1 rfl dG_doRemoves_11 ?_
        refine gh_iload_n C dG_doRemoves_14 rfl ?_
        refine gh_aaldN C (i) hqp rfl rfl ⟨by omega, by decide⟩ dG_doRemoves_15 ?_
        refine gh_tr (some (yp i)) (hqp2 i hlt).1 ?_
        refine gh_astore_n C [some (.ref (Z 1 0)), some (.ref (Z 12 e)), some (.int (nI i)), some (.ref (yp i))] dG_doRemoves_16 rfl (Nat.le_of_ble_eq_true rfl) ?_
        refine gh_aload_n C dG_doRemoves_17 rfl ?_
        refine gh_get C fG_227 (hqp2 i hlt).2 rfl dG_doRemoves_18 ?_
        refine gh_iconst C 1 dG_doRemoves_21 (by decide) ?_
        refine gh_icmp_ne C 89 dG_doRemoves_22 (by decide) (fun c22 => ?_) (fun c22 => ?_)
        · have ez : rmL S e (i + 1) = T1 := by rw [eN]; exact if_neg (fun h9 => c22 h9.1)
          exact inc _ _ (by rw [ez]; exact hA1) hf1
        ·
          obtain ⟨a, ha, hai⟩ := hab i hlt0 (by rw [← e17]; exact c22)
          have ha1 : T1.2.1 18 i = nI a := by rw [e18]; exact hai
          have hcl : (T1.2.1 18 i).toNatClampNeg = a := by rw [ha1]; exact nI_clamp (by omega)
          refine gh_aload_n C dG_doRemoves_25 rfl ?_
          refine gh_get C fG_230 (hqp2 i hlt).2 rfl dG_doRemoves_26 ?_
          refine gh_aload_n C dG_doRemoves_29 rfl ?_
          refine gh_get C fG_215 hw.1 rfl dG_doRemoves_30 ?_
          refine gh_icmp_eq C 89 dG_doRemoves_33 (by decide) (fun c33 => ?_) (fun c33 => ?_)
          · have ez : rmL S e (i + 1) = T1 := by rw [eN]; exact if_neg (fun h9 => h9.2.1 c33)
            exact inc _ _ (by rw [ez]; exact hA1) hf1
          ·
            refine gh_aload_n C dG_doRemoves_36 rfl ?_
            refine gh_get C fG_60 hw.1 rfl dG_doRemoves_37 ?_
            refine gh_aload_n C dG_doRemoves_40 rfl ?_
            refine gh_get C fG_230 (hqp2 i hlt).2 rfl dG_doRemoves_41 ?_
            refine gh_ti (nI a) ha1 ?_
            refine gh_callS C [.int (nI a)] (c_leafNode l d _ (nI a)) lG_233 wG_leafNode sG_leafNode rfl rfl (Nat.le_of_ble_eq_true rfl) ⟨Nat.le_of_ble_eq_true rfl, Nat.le_of_ble_eq_true rfl⟩ (Nat.le_of_ble_eq_true rfl) (Nat.le_of_ble_eq_true rfl) dG_doRemoves_44 (fun v44 g44 h44 => ?_)
            obtain ⟨rfl, rfl⟩ := h44
            rw [two_n a]
            refine gh_callV C [.int (nI (2 * a))] (c_keyOf l d _ hw.2 (nI (2 * a))) lG_187 wT_keyOf vT_keyOf hw.2.1 rfl rfl rfl (Nat.le_of_ble_eq_true rfl) ⟨Nat.le_of_ble_eq_true rfl, Nat.le_of_ble_eq_true rfl⟩ (Nat.le_of_ble_eq_true rfl) (Nat.le_of_ble_eq_true rfl) dG_doRemoves_47 (fun v47 g47 h47 => ?_)
            obtain ⟨rfl, rfl⟩ := h47
            rw [tk_n hw.2.2.2.2.2 (by omega)]
            refine gh_iconst C (-1) dG_doRemoves_50 (by decide) ?_
            refine gh_icmp_eq C 89 dG_doRemoves_51 (by decide) (fun c51 => ?_) (fun c51 => ?_)
            · have ez : rmL S e (i + 1) = T1 := by rw [eN]; exact if_neg (fun h9 => h9.2.2 (by rw [hcl]; exact c51))
              exact inc _ _ (by rw [ez]; exact hA1) hf1
            ·
              have haD : a < 2 ^ T1.1 2 e := by
                by_cases h9 : 2 * a < tW (T1.1 2 e)
                · exact leaf_of_w h9
                · exact absurd (by unfold tk; exact if_neg h9) c51
              have ez : rmL S e (i + 1) = rmD T1 e a := by rw [eN, if_pos (show rmQ T1 e i from ⟨c22, c33, by rw [hcl]; exact c51⟩), hcl]
              refine gh_aload_n C dG_doRemoves_54 rfl ?_
              refine gh_get C fG_60 hw.1 rfl dG_doRemoves_55 ?_
              refine gh_aload_n C dG_doRemoves_58 rfl ?_
              refine gh_get C fG_230 (hqp2 i hlt).2 rfl dG_doRemoves_59 ?_
              refine gh_ti (nI a) ha1 ?_
              refine gh_callV C [.int (nI a)] (c_blankPath l d _ hw.2 a haD) lG_236 wT_blankLeafAndPath vT_blankLeafAndPath hw.2.1 rfl rfl rfl (Nat.le_of_ble_eq_true rfl) ⟨Nat.le_of_ble_eq_true rfl, Nat.le_of_ble_eq_true rfl⟩ (Nat.le_of_ble_eq_true rfl) (Nat.le_of_ble_eq_true rfl) dG_doRemoves_62 (fun v62 g62 h62 => ?_)
              obtain ⟨rfl, rfl⟩ := h62
              have hA2 : cA _ Z (trS T1 e (bl a (T1.1 2 e + 1) (-1) (T1.2.2 2 e)) (bl a (T1.1 2 e + 1) (-1) (T1.2.2 3 e)) (bl a (T1.1 2 e + 1) 0 (T1.2.2 4 e))) n := hA1.tr (e := e) _ _ _
              obtain ⟨qpb, ypb, hqpb, hqp2b⟩ := id hA2.2.2.2.2.2.1
              have hwb := hA2.2.2.2.1.2 e he
              refine gh_aload_n C dG_doRemoves_65 rfl ?_
              refine gh_dup C dG_doRemoves_66 rfl ?_
              refine gh_get C fG_132 hwb.1 rfl dG_doRemoves_67 ?_
              refine gh_aload_n C dG_doRemoves_70 rfl ?_
              refine gh_get C fG_230 ((tset_o20 _ _ _ _ _ _ _ _ _).trans (hqp2 i hlt).2) rfl dG_doRemoves_71 ?_
              refine gh_ti (nI a) ha1 ?_
              refine gh_callS C [.int (nI a)] (c_bit l d _ (nI a)) lG_239 wG_bit sG_bit rfl rfl (Nat.le_of_ble_eq_true rfl) ⟨Nat.le_of_ble_eq_true rfl, Nat.le_of_ble_eq_true rfl⟩ (Nat.le_of_ble_eq_true rfl) (Nat.le_of_ble_eq_true rfl) dG_doRemoves_74 (fun v74 g74 h74 => ?_)
              obtain ⟨rfl, rfl⟩ := h74
              refine gh_ior C dG_doRemoves_77 ?_
              refine gh_putL C [.int (nI e), .ref (Z 13 e), .int ((st1 (trS T1 e (bl a (T1.1 2 e + 1) (-1) (T1.2.2 2 e)) (bl a (T1.1 2 e + 1) (-1) (T1.2.2 3 e)) (bl a (T1.1 2 e + 1) 0 (T1.2.2 4 e))) 7 e (T1.2.1 7 e ||| bitN a)).2.1 4 e), .int ((st1 (trS T1 e (bl a (T1.1 2 e + 1) (-1) (T1.2.2 2 e)) (bl a (T1.1 2 e + 1) (-1) (T1.2.2 3 e)) (bl a (T1.1 2 e + 1) 0 (T1.2.2 4 e))) 7 e (T1.2.1 7 e ||| bitN a)).2.1 5 e), .int ((st1 (trS T1 e (bl a (T1.1 2 e + 1) (-1) (T1.2.2 2 e)) (bl a (T1.1 2 e + 1) (-1) (T1.2.2 3 e)) (bl a (T1.1 2 e + 1) 0 (T1.2.2 4 e))) 7 e (T1.2.1 7 e ||| bitN a)).2.1 6 e), .int ((st1 (trS T1 e (bl a (T1.1 2 e + 1) (-1) (T1.2.2 2 e)) (bl a (T1.1 2 e + 1) (-1) (T1.2.2 3 e)) (bl a (T1.1 2 e + 1) 0 (T1.2.2 4 e))) 7 e (T1.2.1 7 e ||| bitN a)).2.1 7 e), .int ((st1 (trS T1 e (bl a (T1.1 2 e + 1) (-1) (T1.2.2 2 e)) (bl a (T1.1 2 e + 1) (-1) (T1.2.2 3 e)) (bl a (T1.1 2 e + 1) 0 (T1.2.2 4 e))) 7 e (T1.2.1 7 e ||| bitN a)).2.1 8 e), .int ((st1 (trS T1 e (bl a (T1.1 2 e + 1) (-1) (T1.2.2 2 e)) (bl a (T1.1 2 e + 1) (-1) (T1.2.2 3 e)) (bl a (T1.1 2 e + 1) 0 (T1.2.2 4 e))) 7 e (T1.2.1 7 e ||| bitN a)).2.1 9 e), .int ((st1 (trS T1 e (bl a (T1.1 2 e + 1) (-1) (T1.2.2 2 e)) (bl a (T1.1 2 e + 1) (-1) (T1.2.2 3 e)) (bl a (T1.1 2 e + 1) 0 (T1.2.2 4 e))) 7 e (T1.2.1 7 e ||| bitN a)).2.1 10 e)] pG_132 (by decide) hwb.1 (by simp [st1, trS, st2, bitN]) (by simp) rfl rfl dG_doRemoves_78 ?_
              have hA3 := hA2.ep (e := e) 7 (T1.2.1 7 e ||| bitN a) (by decide)
              refine gh_aload_n C dG_doRemoves_81 rfl ?_
              refine gh_aload_n C dG_doRemoves_82 rfl ?_
              refine gh_get C fG_230 ((gh_un (gh_kd (by decide))).trans ((tset_o20 _ _ _ _ _ _ _ _ _).trans (hqp2 i hlt).2)) rfl dG_doRemoves_83 ?_
              refine gh_ti (nI a) ha1 ?_
              refine gh_callV C [.int (nI a)] (c_dismiss l d _ hA3.1 hA3.2.2.1 hA3.2.2.2.2.2.2.1 a ha (show 1 ≤ sE T1 by omega)) lG_242 wG_dismiss vG_dismiss hA3.1 rfl rfl rfl (Nat.le_of_ble_eq_true rfl) ⟨Nat.le_of_ble_eq_true rfl, Nat.le_of_ble_eq_true rfl⟩ (Nat.le_of_ble_eq_true rfl) (Nat.le_of_ble_eq_true rfl) dG_doRemoves_86 (fun v86 g86 h86 => ?_)
              obtain ⟨rfl, hM4, hO4, hf4⟩ := h86
              have hA4 := hA3.dq (dq_dm _ a) hM4 hO4 hf4
              exact inc _ _ (by rw [ez]; exact hA4) (((hf1.trans (fr_tset rfl rfl rfl)).trans (fr.rf.u rfl)).trans (hf4.weak (fun k h => kD_kA h)))
  refine gh_iconst C 0 dG_doRemoves_0 (by decide) ?_
  refine gh_istore_n C [some (.ref (Z 1 0)), some (.ref (Z 12 e)), some (.int 0), none] dG_doRemoves_1 rfl (Nat.le_of_ble_eq_true rfl) ?_
  exact loop (sQ S) 0 g _ (by omega) hA fr.rf
