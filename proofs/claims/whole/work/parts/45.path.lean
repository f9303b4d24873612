/-! the path of a commit -/
def trS (S : SC) (e : Nat) (K B U : Nat → Int32) : SC := st2 (st2 (st2 S 2 e K) 3 e B) 4 e U
def gvS (S : SC) (e v : Nat) (k b : Int32) : SC := trS S e (upd (S.2.2 2 e) v k) (upd (S.2.2 3 e) v b) (upd (S.2.2 4 e) v 0)
theorem cE_tset {g : gh_H} {Z : ZC} {S : SC} {n e : Nat} (h : cE g Z S n) (K B U : Nat → Int32) : cE (tset g e (Z 14 e) (Z 15 e) (Z 16 e) K B U) Z (trS S e K B U) n := by
  obtain ⟨⟨q, q1, q2⟩, h3⟩ := h
  have ho : ∀ k : gh_K, k ≠ (14, e) → k ≠ (15, e) → k ≠ (16, e) → tset g e (Z 14 e) (Z 15 e) (Z 16 e) K B U k = g k := fun k h1 h2 h3 => by unfold tset; rw [gh_un h3, gh_un h2, gh_un h1]
  refine ⟨⟨q, (ho _ (gh_kd (by decide)) (gh_kd (by decide)) (gh_kd (by decide))).trans q1, q2⟩, fun i hi => ?_⟩
  have h4 := h3 i hi
  by_cases hie : i = e
  · subst hie
    have h5 := tset_pT h4.2 K B U
    refine ⟨(ho _ (gh_kd (by decide)) (gh_kd (by decide)) (gh_kd (by decide))).trans h4.1, ?_⟩
    simpa [trS, st2] using h5
  · refine ⟨(ho _ (gh_kd (by decide)) (gh_kd (by decide)) (gh_kd (by decide))).trans h4.1, (ho _ (gh_kd (by decide)) (gh_kd (by decide)) (gh_kd (by decide))).trans h4.2.1, ?_, ?_, ?_, h4.2.2.2.2.2⟩
    · rw [ho _ (gh_kx hie) (gh_kd (by decide)) (gh_kd (by decide))]; simpa [trS, st2, hie] using h4.2.2.1
    · rw [ho _ (gh_kd (by decide)) (gh_kx hie) (gh_kd (by decide))]; simpa [trS, st2, hie] using h4.2.2.2.1
    · rw [ho _ (gh_kd (by decide)) (gh_kd (by decide)) (gh_kx hie)]; simpa [trS, st2, hie] using h4.2.2.2.2.1
def cX (g : gh_H) (Z : ZC) (S : SC) (n : Nat) : Prop := cG g Z S ∧ cS g Z S ∧ cE g Z S n ∧ cK g Z S ∧ okC S
def drS (S : SC) (p : Int32) : SC := tieS (frS S) p (-1) (nI (sN S))
def dr2S (S : SC) (p q : Int32) : SC := tieS (frS S) p q (nI (sN S))
theorem sq_dr2 (S : SC) (p q : Int32) : sq S (dr2S S p q) := (sq_fr S).trans (sq_tie _ _ _ _)
theorem cE.sq {g : gh_H} {Z : ZC} {S S1 : SC} {n : Nat} (h : cE g Z S n) (hs : sq S S1) (h10 : S1.2.1 10 = S.2.1 10) : cE g Z S1 n := by
  obtain ⟨⟨q, q1, q2⟩, h3⟩ := h
  have e1 : sE S1 = sE S := hs.2.2.1 0 (by decide) (by decide)
  refine ⟨⟨q, q1, fun p hp => q2 p (by rw [← e1]; exact hp)⟩, fun p hp => ?_⟩
  unfold cE1
  rw [hs.2.1, hs.2.2.2.1, h10, hs.2.2.2.2 4 (by decide) (by decide), hs.2.2.2.2 5 (by decide) (by decide), hs.2.2.2.2 6 (by decide) (by decide), hs.2.2.2.2 7 (by decide) (by decide), hs.2.2.2.2 8 (by decide) (by decide), hs.2.2.2.2 9 (by decide) (by decide)]
  exact h3 p hp
theorem cX.fresh {g g1 : gh_H} {Z : ZC} {S : SC} {n : Nat} (h : cX g Z S n) (hn : sN S < 4096) (hp : pS g1 (Z 2 0) (sN S + 1) (sR S) (S.2.1 21) (S.2.1 22) (S.2.1 23) (S.2.1 24)) (hf : fr kS g g1) : cX g1 Z (frS S) n :=
  ⟨(h.1.fr hf (by decide)).sq (sq_fr S), hp, (h.2.2.1.fr hf (by decide)).sq (sq_fr S) rfl, (h.2.2.2.1.fr hf (by decide)).sq (sq_fr S), h.2.2.2.2.fresh hn⟩
theorem cX.dr2 {g g1 : gh_H} {Z : ZC} {S : SC} {n : Nat} (h : cX g Z S n) (hn : sN S < 4096) (hr : sR S < 4096) {p q : Int32} (hp : pS g1 (Z 2 0) (sN S + 1) (sR S + 1) (S.2.1 21) (upd (S.2.1 22) (sR S) p) (upd (S.2.1 23) (sR S) q) (upd (S.2.1 24) (sR S) (nI (sN S)))) (hf : fr kS g g1) : cX g1 Z (dr2S S p q) n :=
  ⟨(h.1.fr hf (by decide)).sq (sq_dr2 S p q), hp, (h.2.2.1.fr hf (by decide)).sq (sq_dr2 S p q) rfl, (h.2.2.2.1.fr hf (by decide)).sq (sq_dr2 S p q), (h.2.2.2.2.fresh hn).tie hr _ _ _⟩
theorem cX.sq {g g1 : gh_H} {Z : ZC} {S S1 : SC} {n : Nat} (h : cX g Z S n) (hs : sq S S1) (hS : cS g1 Z S1) (ok : okC S1) (hE : cE g1 Z S1 n) (hf : fr kN g g1) : cX g1 Z S1 n :=
  ⟨(h.1.fr hf (by decide)).sq hs, hS, hE, (h.2.2.2.1.fr hf (by decide)).sq hs, ok⟩
def kT2 (k : Nat) : Bool := k == 14 || k == 15 || k == 16
theorem fr_tset {P : Nat → Bool} {g : gh_H} {e ka ba ua : Nat} {K B U : Nat → Int32} (h1 : P 14 = true) (h2 : P 15 = true) (h3 : P 16 = true) : fr P g (tset g e ka ba ua K B U) := ((fr.rf.u h1).u h2).u h3
theorem cX.tr {g : gh_H} {Z : ZC} {S : SC} {n e : Nat} (h : cX g Z S n) (K B U : Nat → Int32) : cX (tset g e (Z 14 e) (Z 15 e) (Z 16 e) K B U) Z (trS S e K B U) n := by
  have hf : fr kT2 g (tset g e (Z 14 e) (Z 15 e) (Z 16 e) K B U) := fr_tset rfl rfl rfl
  exact ⟨h.1.fr hf (by decide), h.2.1.fr hf (by decide), cE_tset h.2.2.1 K B U, h.2.2.2.1.fr hf (by decide), h.2.2.2.2⟩
theorem cX.ep {g : gh_H} {Z : ZC} {S : SC} {n e : Nat} (h : cX g Z S n) (c : Nat) (x : Int32) (hc : 4 ≤ c ∧ c ≤ 10) : cX (gh_u g (12, e) (Z 12 e, .inr (3, [.int (nI e), .ref (Z 13 e), .int ((st1 S c e x).2.1 4 e), .int ((st1 S c e x).2.1 5 e), .int ((st1 S c e x).2.1 6 e), .int ((st1 S c e x).2.1 7 e), .int ((st1 S c e x).2.1 8 e), .int ((st1 S c e x).2.1 9 e), .int ((st1 S c e x).2.1 10 e)]))) Z (st1 S c e x) n := by
  have hf : fr (fun k => k == 12) g (gh_u g (12, e) (Z 12 e, .inr (3, [.int (nI e), .ref (Z 13 e), .int ((st1 S c e x).2.1 4 e), .int ((st1 S c e x).2.1 5 e), .int ((st1 S c e x).2.1 6 e), .int ((st1 S c e x).2.1 7 e), .int ((st1 S c e x).2.1 8 e), .int ((st1 S c e x).2.1 9 e), .int ((st1 S c e x).2.1 10 e)]))) := fr.rf.u rfl
  refine ⟨h.1.fr hf (by decide), ?_, cE_put h.2.2.1 rfl (fun i hi hc1 => by simpa [cE1, st1, hi] using hc1) gh_us (fun t ht => ht), ?_, ?_⟩
  · have := h.2.1.fr hf (by decide)
    unfold cS at this ⊢
    rw [show (st1 S c e x).2.1 21 = S.2.1 21 by funext i; simp [st1, show (21 : Nat) ≠ c by omega], show (st1 S c e x).2.1 22 = S.2.1 22 by funext i; simp [st1, show (22 : Nat) ≠ c by omega], show (st1 S c e x).2.1 23 = S.2.1 23 by funext i; simp [st1, show (23 : Nat) ≠ c by omega], show (st1 S c e x).2.1 24 = S.2.1 24 by funext i; simp [st1, show (24 : Nat) ≠ c by omega]]
    exact this
  · obtain ⟨⟨q, q1, q2⟩, h3⟩ := h.2.2.2.1.fr hf (by decide)
    refine ⟨⟨q, q1, q2⟩, fun p hp => ?_⟩
    have := h3 p hp
    simpa [cK1, st1, show (11 : Nat) ≠ c by omega, show (12 : Nat) ≠ c by omega, show (13 : Nat) ≠ c by omega, show (14 : Nat) ≠ c by omega, show (15 : Nat) ≠ c by omega, show (16 : Nat) ≠ c by omega] using this
  · have := h.2.2.2.2
    unfold okC at this ⊢
    rw [show (st1 S c e x).2.1 21 = S.2.1 21 by funext i; simp [st1, show (21 : Nat) ≠ c by omega], show (st1 S c e x).2.1 22 = S.2.1 22 by funext i; simp [st1, show (22 : Nat) ≠ c by omega], show (st1 S c e x).2.1 23 = S.2.1 23 by funext i; simp [st1, show (23 : Nat) ≠ c by omega], show (st1 S c e x).2.1 24 = S.2.1 24 by funext i; simp [st1, show (24 : Nat) ≠ c by omega]]
    exact this
def sdn (a h : Nat) : Nat := pn (a ^^^ 2 ^ h) h
theorem sd_w : ∀ D, D ≤ 4 → ∀ h, h < D → ∀ a, a < 2 ^ D → a ^^^ 2 ^ h < 2 ^ D := by decide +kernel
theorem sd_x : ∀ h, h < 4 → ∀ a, a < 16 → nI a ^^^ nI (2 ^ h) = nI (a ^^^ 2 ^ h) := by decide +kernel
set_option maxRecDepth 100000 in
set_option maxHeartbeats 4000000 in
theorem c_sideNode (l : Launch) (d : gh_D) (g : gh_H) (a h : Nat) (ha : a < 16) (hh : h < 4) : gh_C l d mG_sideNode (rr 1 0 0) [.int (nI a), .int (nI (h + 1))] g (fun v g1 => v = some (.int (nI (sdn a h))) ∧ g1 = g) := by
  have hx := sd_w 4 (by decide) h hh a ha
  refine gh_of [some (.int (nI a)), some (.int (nI (h + 1)))] (by decide) rfl (Nat.le_of_ble_eq_true rfl) (by simp [Value.category]) (fun z C hQ => ?_)
  show gh_W l d z 0 [some (.int (nI a)), some (.int (nI (h + 1)))] [] g 0 0
  refine gh_iload_n C dG_sideNode_0 rfl ?_
  refine gh_iconst C 1 dG_sideNode_1 (by decide) ?_
  refine gh_iload_n C dG_sideNode_2 rfl ?_
  refine gh_iconst C 1 dG_sideNode_3 (by decide) ?_
  refine gh_isub C dG_sideNode_4 ?_
  refine gh_ti (nI h) (nI_pred h) ?_
  refine gh_ishl C dG_sideNode_5 ?_
  refine gh_ti (nI (2 ^ h)) (sh1h h (by omega)) ?_
  refine gh_ixor C dG_sideNode_6 ?_
  refine gh_ti (nI (a ^^^ 2 ^ h)) (sd_x h hh a ha) ?_
  refine gh_iload_n C dG_sideNode_7 rfl ?_
  refine gh_iconst C 1 dG_sideNode_8 (by decide) ?_
  refine gh_isub C dG_sideNode_9 ?_
  refine gh_ti (nI h) (nI_pred h) ?_
  refine gh_callS C [.int (nI (a ^^^ 2 ^ h)), .int (nI h)] (c_pathNode l d _ (a ^^^ 2 ^ h) h hx (by omega)) lG_279 wG_pathNode sG_pathNode rfl rfl (Nat.le_of_ble_eq_true rfl) ⟨Nat.le_of_ble_eq_true rfl, Nat.le_of_ble_eq_true rfl⟩ (Nat.le_of_ble_eq_true rfl) (Nat.le_of_ble_eq_true rfl) dG_sideNode_10 (fun v10 g10 h10 => ?_)
  obtain ⟨rfl, rfl⟩ := h10
  refine gh_iret C hQ rfl dG_sideNode_13 ?_
  exact ⟨rfl, rfl⟩
/-- a node that counts, on the path: p is its path secret, S with it made -/
def mpN (S : SC) (e a h : Nat) (p : Int32) : SC × Int32 :=
  let rc := res (S.1 2 e) (S.2.2 2 e) (S.2.2 4 e) h (sdn a h)
  let S2 := sndS S e (rc &&& (lns (S.2.1 9 e) 16 ^^^ (-1))) p 31
  let S3 := pkS S2 e (selH S2 h (sdn a h)) p (sP S2)
  let S5 := gvS (dr2S S3 p (-1)) e (pn a (h + 1)) (nI (sN S3)) (nI e)
  (st1 S5 6 e (S5.2.1 6 e ||| bitN (pn a (h + 1))), p)
def nxS (S : SC) (p : Int32) : SC := if p = -1 then frS S else dr2S S p (-1)
def mpT (S : SC) (e a h : Nat) (p : Int32) : SC × Int32 :=
  if res (S.1 2 e) (S.2.2 2 e) (S.2.2 4 e) h (sdn a h) = 0 then (gvS S e (pn a (h + 1)) (-1) (-1), p)
  else mpN (nxS S p) e a h (nI (sN S))
def mpL (S : SC) (e a : Nat) : Nat → SC × Int32
  | 0 => (gvS (frS S) e (2 * a) (nI (sN S)) (nI e), -1)
  | h + 1 => mpT (mpL S e a h).1 e a h (mpL S e a h).2
/-- behind the path, and c -/
def mpS (S : SC) (e a D : Nat) : SC × Int32 := (nxS (mpL S e a D).1 (mpL S e a D).2, nI (sN (mpL S e a D).1))
