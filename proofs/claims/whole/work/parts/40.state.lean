/-! THE CLASS'S STATE. S.1 0: 0 epochs, 1 packages, 2 proposals, 3 secrets, 4 rules; S.1 1 m: updates of member m; S.1 2 e: depth of epoch e.
S.2.1: members 0 epoch 1 leaf 2 secret 3 stuck; epochs 4 committer's leaf 5 secret 6 counting 7 removed 8 updated 9 added 10 encrypted; packages 11 member 12 first 13 leaf key 14 epoch 15 leaf 16 joined; proposals 17 kind 18 about 19 key; 20 owners; 21 out; rules 22 from 23 also 24 to.
S.2.2: 0 a member's keys by height, 1 its updates; 2 keys, 3 born, 4 unmerged of an epoch's tree. Z: addresses by key. -/
abbrev SC : Type := (Nat → Nat → Nat) × (Nat → Nat → Int32) × (Nat → Nat → Nat → Int32)
abbrev ZC : Type := Nat → Nat → Nat
abbrev sE (S : SC) : Nat := S.1 0 0
abbrev sP (S : SC) : Nat := S.1 0 1
abbrev sQ (S : SC) : Nat := S.1 0 2
abbrev sN (S : SC) : Nat := S.1 0 3
abbrev sR (S : SC) : Nat := S.1 0 4
def stN (S : SC) (c i v : Nat) : SC := (fun a b => if a = c ∧ b = i then v else S.1 a b, S.2)
def st1 (S : SC) (c i : Nat) (x : Int32) : SC := (S.1, fun a b => if a = c ∧ b = i then x else S.2.1 a b, S.2.2)
def sv1 (S : SC) (c : Nat) (f : Nat → Int32) : SC := (S.1, fun a => if a = c then f else S.2.1 a, S.2.2)
def st2 (S : SC) (c i : Nat) (f : Nat → Int32) : SC := (S.1, S.2.1, fun a b => if a = c ∧ b = i then f else S.2.2 a b)
def cG (g : gh_H) (Z : ZC) (S : SC) : Prop := g (1, 0) = some (Z 1 0, .inr (0, [.ref (Z 2 0), .ref (Z 7 0), .ref (Z 11 0), .int (nI (sE S)), .ref (Z 17 0), .int (nI (sP S)), .ref (Z 19 0), .int (nI (sQ S)), .ref (Z 21 0), .ref (Z 22 0)]))
def cS (g : gh_H) (Z : ZC) (S : SC) : Prop := pS g (Z 2 0) (sN S) (sR S) (S.2.1 21) (S.2.1 22) (S.2.1 23) (S.2.1 24)
def qA (f : Nat → Option Nat) : (Nat → Int32) ⊕ (Nat → Int64) ⊕ (Nat → UInt32) ⊕ (Nat → UInt64) ⊕ (Nat → Option Nat) := .inr (.inr (.inr (.inr f)))
def cM1 (g : gh_H) (Z : ZC) (S : SC) (m : Nat) : Prop := pM g m (Z 8 m) (Z 9 m) (Z 10 m) (S.2.1 0 m) (S.2.1 1 m) (S.2.1 2 m) (S.2.1 3 m) (S.1 1 m) (S.2.2 0 m) (S.2.2 1 m)
def cM (g : gh_H) (Z : ZC) (S : SC) : Prop := (∃ q : Nat → Option Nat, g (7, 0) = some (Z 7 0, .inl (4, 16, .inr (.inr (.inr (.inr q))))) ∧ ∀ m, m < 16 → q m = some (Z 8 m)) ∧ ∀ m, m < 16 → cM1 g Z S m
def cE1 (g : gh_H) (Z : ZC) (S : SC) (e : Nat) : Prop := pE g e (Z 12 e) (Z 13 e) (nI e) (S.2.1 4 e) (S.2.1 5 e) (S.2.1 6 e) (S.2.1 7 e) (S.2.1 8 e) (S.2.1 9 e) (S.2.1 10 e) ∧ pT g e (S.1 2 e) (Z 13 e) (Z 14 e) (Z 15 e) (Z 16 e) (S.2.2 2 e) (S.2.2 3 e) (S.2.2 4 e)
def cE (g : gh_H) (Z : ZC) (S : SC) (n : Nat) : Prop := (∃ q : Nat → Option Nat, g (11, 0) = some (Z 11 0, .inl (5, 60, .inr (.inr (.inr (.inr q))))) ∧ ∀ e, e < sE S → q e = some (Z 12 e)) ∧ ∀ e, e < n → cE1 g Z S e
def cK1 (g : gh_H) (Z : ZC) (S : SC) (p : Nat) : Prop := g (18, p) = some (Z 18 p, .inr (5, [.int (S.2.1 11 p), .int (S.2.1 12 p), .int (S.2.1 13 p), .int (S.2.1 14 p), .int (S.2.1 15 p), .int (S.2.1 16 p)]))
def cK (g : gh_H) (Z : ZC) (S : SC) : Prop := (∃ q : Nat → Option Nat, g (17, 0) = some (Z 17 0, .inl (6, 60, .inr (.inr (.inr (.inr q))))) ∧ ∀ p, p < sP S → q p = some (Z 18 p)) ∧ ∀ p, p < sP S → cK1 g Z S p
def cP (g : gh_H) (Z : ZC) (S : SC) : Prop := ∃ (q : Nat → Option Nat) (y : Nat → Nat), g (19, 0) = some (Z 19 0, .inl (7, 20, .inr (.inr (.inr (.inr q))))) ∧ ∀ j, j < sQ S → q j = some (y j) ∧ g (20, j) = some (y j, .inr (6, [.int (S.2.1 17 j), .int (S.2.1 18 j), .int (S.2.1 19 j)]))
def cO (g : gh_H) (Z : ZC) (S : SC) : Prop := g (21, 0) = some (Z 21 0, .inl (0, 16, .inl (S.2.1 20)))
def cH (g : gh_H) (Z : ZC) : Prop := ∃ h : Nat → Int32, g (22, 0) = some (Z 22 0, .inl (0, 146, .inl h))
theorem cG.fr {P : Nat → Bool} {g g1 : gh_H} {Z : ZC} {S : SC} (h : cG g Z S) (hf : fr P g g1) (hP : P 1 = false) : cG g1 Z S := hf.at hP h
theorem cS.fr {P : Nat → Bool} {g g1 : gh_H} {Z : ZC} {S : SC} (h : cS g Z S) (hf : fr P g g1) (hP : P 2 = false ∧ P 3 = false ∧ P 4 = false ∧ P 5 = false ∧ P 6 = false) : cS g1 Z S := pS.fr h hf hP
theorem cM.fr {P : Nat → Bool} {g g1 : gh_H} {Z : ZC} {S : SC} (h : cM g Z S) (hf : fr P g g1) (hP : P 7 = false ∧ P 8 = false ∧ P 9 = false ∧ P 10 = false) : cM g1 Z S := by
  obtain ⟨⟨q, h1, h2⟩, h3⟩ := h
  exact ⟨⟨q, hf.at hP.1 h1, h2⟩, fun m hm => ⟨hf.at hP.2.1 (h3 m hm).1, hf.at hP.2.2.1 (h3 m hm).2.1, hf.at hP.2.2.2 (h3 m hm).2.2⟩⟩
theorem cE1.fr {P : Nat → Bool} {g g1 : gh_H} {Z : ZC} {S : SC} {e : Nat} (h : cE1 g Z S e) (hf : fr P g g1) (hP : P 12 = false ∧ P 13 = false ∧ P 14 = false ∧ P 15 = false ∧ P 16 = false) : cE1 g1 Z S e :=
  ⟨hf.at hP.1 h.1, hf.at hP.2.1 h.2.1, hf.at hP.2.2.1 h.2.2.1, hf.at hP.2.2.2.1 h.2.2.2.1, hf.at hP.2.2.2.2 h.2.2.2.2.1, h.2.2.2.2.2⟩
theorem cE.fr {P : Nat → Bool} {g g1 : gh_H} {Z : ZC} {S : SC} {n : Nat} (h : cE g Z S n) (hf : fr P g g1) (hP : P 11 = false ∧ P 12 = false ∧ P 13 = false ∧ P 14 = false ∧ P 15 = false ∧ P 16 = false) : cE g1 Z S n := by
  obtain ⟨⟨q, h1, h2⟩, h3⟩ := h
  exact ⟨⟨q, hf.at hP.1 h1, h2⟩, fun e he => (h3 e he).fr hf hP.2⟩
theorem cK.fr {P : Nat → Bool} {g g1 : gh_H} {Z : ZC} {S : SC} (h : cK g Z S) (hf : fr P g g1) (hP : P 17 = false ∧ P 18 = false) : cK g1 Z S := by
  obtain ⟨⟨q, h1, h2⟩, h3⟩ := h
  exact ⟨⟨q, hf.at hP.1 h1, h2⟩, fun p hp => hf.at hP.2 (h3 p hp)⟩
theorem cP.fr {P : Nat → Bool} {g g1 : gh_H} {Z : ZC} {S : SC} (h : cP g Z S) (hf : fr P g g1) (hP : P 19 = false ∧ P 20 = false) : cP g1 Z S := by
  obtain ⟨q, y, h1, h2⟩ := h
  exact ⟨q, y, hf.at hP.1 h1, fun j hj => ⟨(h2 j hj).1, hf.at hP.2 (h2 j hj).2⟩⟩
theorem cO.fr {P : Nat → Bool} {g g1 : gh_H} {Z : ZC} {S : SC} (h : cO g Z S) (hf : fr P g g1) (hP : P 21 = false) : cO g1 Z S := hf.at hP h
theorem cH.fr {P : Nat → Bool} {g g1 : gh_H} {Z : ZC} (h : cH g Z) (hf : fr P g g1) (hP : P 22 = false) : cH g1 Z := by
  obtain ⟨q, h1⟩ := h
  exact ⟨q, hf.at hP h1⟩
/-- frames by keys -/
def fq (P : gh_K → Bool) (g g1 : gh_H) : Prop := ∀ k : gh_K, P k = false → g1 k = g k
theorem fq.rf {P : gh_K → Bool} {g : gh_H} : fq P g g := fun _ _ => rfl
theorem fq.u {P : gh_K → Bool} {g g1 : gh_H} {k : gh_K} {v : Nat × gh_E} (h : fq P g g1) (hk : P k = true) : fq P g (gh_u g1 k v) := fun q hq => by
  rw [gh_un (fun e => by rw [e, hk] at hq; cases hq)]; exact h q hq
theorem fq.mv {P : gh_K → Bool} {g g1 : gh_H} {q k : gh_K} (h : fq P g g1) (hq : P q = true) (hk : P k = true) : fq P g (gh_mv g1 q k) := fun r hr => by
  rw [gh_mv_o (fun e => by rw [e, hk] at hr; cases hr) (fun e => by rw [e, hq] at hr; cases hr)]; exact h r hr
theorem fq.trans {P : gh_K → Bool} {g g1 g2 : gh_H} (h : fq P g g1) (h2 : fq P g1 g2) : fq P g g2 := fun k hk => (h2 k hk).trans (h k hk)
theorem fq.weak {P P1 : gh_K → Bool} {g g1 : gh_H} (h : fq P g g1) (hP : ∀ k, P1 k = false → P k = false) : fq P1 g g1 := fun k hk => h k (hP _ hk)
theorem fq.at {P : gh_K → Bool} {g g1 : gh_H} (h : fq P g g1) {k : gh_K} {v : Nat × gh_E} (hk : P k = false) (hg : g k = some v) : g1 k = some v := (h k hk).trans hg
