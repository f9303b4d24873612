/-! the welcome -/
def wlc (T : SR) (e D i : Nat) : Option Nat := if T.2 21 e = 0 then none else lowc D (T.2 16 e) (T.2 40 i).toNatClampNeg
def wcN (T : SR) (e D : Nat) : Nat → Nat
  | 0 => 0
  | i + 1 => if T.2 39 i = nI e then wcN T e D i + 1 + (if (wlc T e D i).isSome = true then 1 else 0) else wcN T e D i
def wcQ (T : SR) (e D : Nat) (j : Int32) (n : Nat) (x y z : Int32) : Prop := ∃ i, i < n ∧ T.2 39 i = nI e ∧ x = T.2 37 i ∧ y = -1 ∧ (z = j ∨ ∃ h, wlc T e D i = some h ∧ z = T.2 25 (31 * e + pn (T.2 40 i).toNatClampNeg (h + 1)))
theorem wc_A (T : SR) (e D : Nat) (j : Int32) (hE : T.1 12 = e) : ∀ n, (wcR T e D j n).1 7 = T.1 7 + wcN T e D n ∧ (wcR T e D j n).2 20 e = T.2 20 e + nI (wcN T e D n) ∧ (∀ x y z, ruR (wcR T e D j n) x y z ↔ ruR T x y z ∨ wcQ T e D j n x y z) ∧ enx T (wcR T e D j n) ∧ og 1 e (T.2 20) ((wcR T e D j n).2 20) := by
  intro n
  induction n with
  | zero =>
    refine ⟨rfl, ?_, fun x y z => ⟨Or.inl, fun q => q.elim id (fun ⟨i, hi, _⟩ => absurd hi (Nat.not_lt_zero i))⟩, enx.rf, og.rf⟩
    show T.2 20 e = T.2 20 e + nI 0
    rw [show nI 0 = 0 from rfl, Int32.add_zero]
  | succ n ih =>
    obtain ⟨i1, i2, i3, i4, i5⟩ := ih
    have hf := wcR_f T e D j n
    obtain ⟨W, eW⟩ : ∃ W, W = wcR T e D j n := ⟨_, rfl⟩
    have es : wcR T e D j (n + 1) = wc1 W e D j n := by rw [eW]; rfl
    rw [← eW] at i1 i2 i3 i4 i5 hf
    rw [es]
    have w12 : W.1 12 = e := (hf.1 12 (by decide)).trans hE
    have w39 : W.2 39 = T.2 39 := hf.2.1 39 (by decide) (by decide) (by decide) (by decide) (by decide)
    have w37 : W.2 37 = T.2 37 := hf.2.1 37 (by decide) (by decide) (by decide) (by decide) (by decide)
    have w40 : W.2 40 = T.2 40 := hf.2.1 40 (by decide) (by decide) (by decide) (by decide) (by decide)
    have w21 : W.2 21 = T.2 21 := hf.2.1 21 (by decide) (by decide) (by decide) (by decide) (by decide)
    have w16 : W.2 16 = T.2 16 := hf.2.1 16 (by decide) (by decide) (by decide) (by decide) (by decide)
    have w25 : W.2 25 = T.2 25 := hf.2.1 25 (by decide) (by decide) (by decide) (by decide) (by decide)
    have en : wcN T e D (n + 1) = if T.2 39 n = nI e then wcN T e D n + 1 + (if (wlc T e D n).isSome = true then 1 else 0) else wcN T e D n := rfl
    have qs : ∀ x y z, wcQ T e D j (n + 1) x y z ↔ wcQ T e D j n x y z ∨ (T.2 39 n = nI e ∧ x = T.2 37 n ∧ y = -1 ∧ (z = j ∨ ∃ h, wlc T e D n = some h ∧ z = T.2 25 (31 * e + pn (T.2 40 n).toNatClampNeg (h + 1)))) := fun x y z => by
      constructor
      · rintro ⟨i, q1, q2⟩
        by_cases e9 : i = n
        · subst e9; exact Or.inr q2
        · exact Or.inl ⟨i, by omega, q2⟩
      · rintro (⟨i, q1, q2⟩ | q)
        · exact ⟨i, by omega, q2⟩
        · exact ⟨n, by omega, q⟩
    unfold wc1
    rw [w39, en]
    by_cases hu : T.2 39 n = nI e
    · rw [if_pos hu, if_pos hu, w37, w40]
      obtain ⟨A, eA⟩ : ∃ A, A = enR W (T.2 37 n) j (-1) := ⟨_, rfl⟩
      have af := en_f W (T.2 37 n) j (-1)
      have ax := enx_en W (T.2 37 n) j (-1)
      have ar := ru_en W (T.2 37 n) j (-1)
      rw [← eA] at af ax ar ⊢
      rw [w12] at ax
      have a12 : A.1 12 = e := (af.1 12 (by decide)).trans w12
      have a37 : A.2 37 = T.2 37 := (af.2.1 37 (by decide) (by decide) (by decide) (by decide) (by decide)).trans w37
      have a21 : A.2 21 = T.2 21 := (af.2.1 21 (by decide) (by decide) (by decide) (by decide) (by decide)).trans w21
      have a16 : A.2 16 = T.2 16 := (af.2.1 16 (by decide) (by decide) (by decide) (by decide) (by decide)).trans w16
      have a25 : A.2 25 = T.2 25 := (af.2.1 25 (by decide) (by decide) (by decide) (by decide) (by decide)).trans w25
      have a20 : A.2 20 e = T.2 20 e + nI (wcN T e D n + 1) := by
        rw [ax.2.2.2.2.2]; simp only [upd, if_true]; rw [i2, Int32.add_assoc, ← gh_inc]; rfl
      have aog : og 1 e (T.2 20) (A.2 20) := by rw [ax.2.2.2.2.2]; exact i5.u1
      have ew : wc2 A e D n (T.2 40 n).toNatClampNeg = match wlc T e D n with
        | none => A
        | some h => enR A (T.2 37 n) (T.2 25 (31 * e + pn (T.2 40 n).toNatClampNeg (h + 1))) (-1) := by
        unfold wc2 wlc
        rw [a21, a16, a37, a25]
        by_cases h0 : T.2 21 e = 0
        · rw [if_pos h0, if_pos h0]
        · rw [if_neg h0, if_neg h0] <;> (cases lowc D (T.2 16 e) (T.2 40 n).toNatClampNeg <;> rfl)
      rw [ew]
      cases hw : wlc T e D n with
      | none =>
        refine ⟨?_, ?_, fun x y z => ?_, i4.trans ax.1, aog⟩
        · show A.1 7 = _
          rw [af.2.2, i1]; simp; omega
        · show A.2 20 e = _
          simpa using a20
        · show ruR A x y z ↔ _
          rw [ar, i3, qs, hw]
          constructor
          · rintro ((q | q) | ⟨q1, q2, q3⟩)
            · exact Or.inl q
            · exact Or.inr (Or.inl q)
            · exact Or.inr (Or.inr ⟨hu, q1, q2, Or.inl q3⟩)
          · rintro (q | q | ⟨-, q1, q2, q3⟩)
            · exact Or.inl (Or.inl q)
            · exact Or.inl (Or.inr q)
            · rcases q3 with q3 | ⟨h, q3, -⟩
              · exact Or.inr ⟨q1, q2, q3⟩
              · cases q3
      | some h =>
        obtain ⟨zz, ezz⟩ : ∃ zz, zz = T.2 25 (31 * e + pn (T.2 40 n).toNatClampNeg (h + 1)) := ⟨_, rfl⟩
        have bf := en_f A (T.2 37 n) zz (-1)
        have bx := enx_en A (T.2 37 n) zz (-1)
        have br := ru_en A (T.2 37 n) zz (-1)
        rw [a12] at bx
        dsimp only
        rw [← ezz]
        refine ⟨?_, ?_, fun x y z => ?_, (i4.trans ax.1).trans bx.1, ?_⟩
        · show (enR A (T.2 37 n) zz (-1)).1 7 = _
          rw [bf.2.2, af.2.2, i1]; simp; omega
        · show (enR A (T.2 37 n) zz (-1)).2 20 e = _
          rw [bx.2.2.2.2.2]; simp only [upd, if_true]; rw [a20, Int32.add_assoc]
          have : nI (wcN T e D n + 1) + 1 = nI (wcN T e D n + 1 + 1) := gh_inc _
          rw [this]
          simp
        · show ruR (enR A (T.2 37 n) zz (-1)) x y z ↔ _
          rw [br, ar, i3, qs, hw]
          constructor
          · rintro (((q | q) | ⟨q1, q2, q3⟩) | ⟨q1, q2, q3⟩)
            · exact Or.inl q
            · exact Or.inr (Or.inl q)
            · exact Or.inr (Or.inr ⟨hu, q1, q2, Or.inl q3⟩)
            · exact Or.inr (Or.inr ⟨hu, q1, q2, Or.inr ⟨h, rfl, by rw [← ezz]; exact q3⟩⟩)
          · rintro (q | q | ⟨-, q1, q2, q3⟩)
            · exact Or.inl (Or.inl (Or.inl q))
            · exact Or.inl (Or.inl (Or.inr q))
            · rcases q3 with q3 | ⟨h2, q3, q4⟩
              · exact Or.inl (Or.inr ⟨q1, q2, q3⟩)
              · cases q3
                rw [← ezz] at q4
                exact Or.inr ⟨q1, q2, q4⟩
        · show og 1 e (T.2 20) ((enR A (T.2 37 n) zz (-1)).2 20)
          rw [bx.2.2.2.2.2]; exact aog.u1
    · rw [if_neg hu, if_neg hu]
      refine ⟨i1, i2, fun x y z => ?_, i4, i5⟩
      rw [i3, qs]
      exact ⟨fun q => q.imp id Or.inl, fun q => q.imp id (fun q => q.elim id (fun q => absurd q.1 hu))⟩
theorem mt_j : ∀ a, a < 16 → ∀ l, l < 16 → a ≠ l → ∀ j, j < 4 → pn l j = sdn a j → j + 1 = mt a l := by decide +kernel
/-- the lowest node that counts above a leaf: the meeting with the committer's path -/
theorem lc_path {S : SC} {T : SR} {e a D N0 : Nat} {X : SC} {Y : SR} {p : Int32} (h : PH S T e a D N0) (hA : PA S T e a D N0 D X Y p) {l : Nat} (hl : l < 16) (hne : a ≠ l) (hk : rK T e (2 * l) ≠ -1) : lowc D (Y.2 16 e) l = some (mt a l - 1) ∧ rsv (rK T e) (rU T e) (mt a l - 1) (sdn a (mt a l - 1)) ≠ [] ∧ mt a l ≤ D := by
  obtain ⟨⟨ha, haD, he⟩, hTE, hTI, -⟩ := h
  obtain ⟨-, -, -, ⟨r1, r2, r3, r4, r5⟩, -⟩ := hA
  have hD4 := hTI.1
  have hlD : l < 2 ^ D := by
    by_cases h9 : 2 * l < tW D
    · exact (tW_lf D hD4 l hl).mp h9
    · exact absurd ((hTI.2 (2 * l) (by omega)).1 (by omega)) hk
  have hm1 := mt_b a ha l hl
  have hmw := mt_w D hD4 a haD l hlD hne
  have hms := mt_s a ha l hl hne
  have hne9 : rsv (rK T e) (rU T e) (mt a l - 1) (sdn a (mt a l - 1)) ≠ [] := by
    rw [hms]
    obtain ⟨i, -, h2, -⟩ := rsv_ex (U := rU T e) hl hk (mt a l - 1) (by omega)
    intro h0; rw [h0] at h2; simp at h2
  have hu : pn l (mt a l) = pn a (mt a l) := mt_u a ha l hl (mt a l) (by omega) (Nat.le_refl _)
  have e1 : mt a l - 1 + 1 = mt a l := by omega
  refine ⟨lowc_at (by omega) ?_ (fun j hj => ?_), hne9, hmw⟩
  · rw [e1, hu]
    refine (and_bit' (by have := pn_31 a ha (mt a l) (by omega); omega)).mpr ?_
    rcases (r3 (mt a l) (by omega) hmw).2 with ⟨-, -, q⟩ | ⟨k, -, -, -, q, -⟩
    · exact absurd q hne9
    · exact q
  · refine (and_bit (by have := pn_31 l hl (j + 1) (by omega); omega)).mpr ?_
    cases hb : tb (Y.2 16 e) (pn l (j + 1)) with
    | false => rfl
    | true =>
      obtain ⟨i, q1, q2, q3⟩ := r5 _ (by have := pn_31 l hl (j + 1) (by omega); omega) hb
      exact absurd q3 (mt_d a ha l hl hne (j + 1) (by omega) i (by omega))
