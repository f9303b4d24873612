/-! isRightBlank, leafOf, freeLeaf, mayAdd, copyTree, findRemoves, findUpdates -/
def rK (R : SR) (e v : Nat) : Int32 := R.2 22 (31 * e + v)
def rU (R : SR) (e v : Nat) : Int32 := R.2 23 (31 * e + v)
theorem upd_upd (f : Nat → Int32) (k : Nat) (x z : Int32) : upd (upd f k x) k z = upd f k z := by
  funext j; simp only [upd]; by_cases h : j = k <;> simp [h]
theorem upd_self (f : Nat → Int32) (k : Nat) : upd f k (f k) = f := by
  funext j; simp only [upd]; by_cases h : j = k <;> simp [h]
theorem p2D {D : Nat} (h : D ≤ 4) : 2 ^ D ≤ 16 ∧ 1 ≤ 2 ^ D := by
  have : D = 0 ∨ D = 1 ∨ D = 2 ∨ D = 3 ∨ D = 4 := by omega
  rcases this with h | h | h | h | h <;> subst h <;> decide
set_option maxRecDepth 100000 in
set_option maxHeartbeats 4000000 in
theorem r_isRB (l : Launch) (d : gh_D) (g : gh_H) {y : Nat → Nat} {R : SR} (hR : rR g y R) (e k : Nat) (he : e < 60) (hD : R.2 13 e = nI (k + 1)) (hD4 : k + 1 ≤ 4) : gh_C l d mR_isRightBlank (rr 0 0 0) [.ref (y 0), .int (nI e)] g (fun v g1 => v = some (.int (if rbl k (rK R e) = true then 1 else 0)) ∧ g1 = g) := by
  refine gh_of [some (.ref (y 0)), some (.int (nI e)), none, none] (by decide) rfl (Nat.le_of_ble_eq_true rfl) (by simp [Value.category]) (fun z C hQ => ?_)
  show gh_W l d z 0 [some (.ref (y 0)), some (.int (nI e)), none, none] [] g 0 0
  have h0 := rQ.rf hR
  have hp := p2D (show k ≤ 4 by omega)
  have hpk := p2D hD4
  have hps : 2 ^ (k + 1) = 2 * 2 ^ k := by rw [Nat.pow_succ]; omega
  have loop : ∀ (c i : Nat), i + c = 2 * 2 ^ k → 2 ^ k ≤ i → (∀ j, 2 ^ k ≤ j → j < i → rK R e (2 * j) = -1) → gh_W l d z 13 [some (.ref (y 0)), some (.int (nI e)), some (.int (nI (2 ^ k))), some (.int (nI i))] [] g 0 0 := by
    intro c
    induction c with
    | zero =>
      intro i hi h2 hb
      have hi : i = 2 * 2 ^ k := by omega
      subst hi
      refine gh_iload_n C dR_isRightBlank_13 rfl ?_
      refine gh_iconst C 2 dR_isRightBlank_14 (by decide) ?_
      refine gh_iload_n C dR_isRightBlank_15 rfl ?_
      refine gh_imul C dR_isRightBlank_16 ?_
      refine gh_ti (nI (2 * (2 ^ k))) (pk_mul 2 (2 ^ k)) ?_
      refine gh_icmp_ge C 45 dR_isRightBlank_17 (by decide) (fun c17 => ?_) (fun c17 => ?_)
      ·
        refine gh_iconst C 1 dR_isRightBlank_45 (by decide) ?_
        refine gh_zret C hQ rfl (by simp) dR_isRightBlank_46 ?_
        exact ⟨by rw [if_pos ((rbl_iff k (rK R e)).mpr (fun i h1 h2 => hb i h1 (by omega)))], rfl⟩
      · exact absurd (nI_le (Nat.le_refl _) (by omega)) c17
    | succ c ih =>
      intro i hi h2 hb
      refine gh_iload_n C dR_isRightBlank_13 rfl ?_
      refine gh_iconst C 2 dR_isRightBlank_14 (by decide) ?_
      refine gh_iload_n C dR_isRightBlank_15 rfl ?_
      refine gh_imul C dR_isRightBlank_16 ?_
      refine gh_ti (nI (2 * (2 ^ k))) (pk_mul 2 (2 ^ k)) ?_
      refine gh_icmp_ge C 45 dR_isRightBlank_17 (by decide) (fun c17 => ?_) (fun c17 => ?_)
      · exact absurd c17 (nI_ge (by omega) (by omega))
      ·
        refine gh_aload_n C dR_isRightBlank_20 rfl ?_
        refine rw_get C h0 fR_65 rfl dR_isRightBlank_21 ?_
        refine gh_bipush C 31 dR_isRightBlank_24 (by decide) ?_
        refine gh_iload_n C dR_isRightBlank_26 rfl ?_
        refine gh_imul C dR_isRightBlank_27 ?_
        refine gh_ti (nI (31 * e)) (pk_mul 31 e) ?_
        refine gh_iconst C 2 dR_isRightBlank_28 (by decide) ?_
        refine gh_iload_n C dR_isRightBlank_29 rfl ?_
        refine gh_imul C dR_isRightBlank_30 ?_
        refine gh_ti (nI (2 * i)) (pk_mul 2 i) ?_
        refine gh_iadd C dR_isRightBlank_31 ?_
        refine gh_ti (nI (31 * e + 2 * i)) (nI_add (31 * e) (2 * i)) ?_
        refine rw_ild C h0 22 1860 ⟨rfl, rfl, rfl, by decide⟩ (31 * e + 2 * i) rfl (by omega) dR_isRightBlank_32 ?_
        refine gh_iconst C (-1) dR_isRightBlank_33 (by decide) ?_
        refine gh_icmp_eq C 39 dR_isRightBlank_34 (by decide) (fun c34 => ?_) (fun c34 => ?_)
        · refine gh_iinc C (nI (i + 1)) [some (.ref (y 0)), some (.int (nI e)), some (.int (nI (2 ^ k))), some (.int (nI (i + 1)))] dR_isRightBlank_39 rfl (gh_inc i) rfl ?_
          refine gh_goto C 13 dR_isRightBlank_42 (by decide) ?_
          exact ih (i + 1) (by omega) (by omega) (fun j h3 h4 => by
            by_cases e9 : j = i
            · subst e9; exact c34
            · exact hb j h3 (by omega))
        ·
          refine gh_iconst C 0 dR_isRightBlank_37 (by decide) ?_
          refine gh_zret C hQ rfl (by simp) dR_isRightBlank_38 ?_
          exact ⟨by rw [if_neg (fun h => c34 ((rbl_iff k (rK R e)).mp h i h2 (by omega)))], rfl⟩
  refine gh_iconst C 1 dR_isRightBlank_0 (by decide) ?_
  refine gh_aload_n C dR_isRightBlank_1 rfl ?_
  refine rw_get C h0 fR_38 rfl dR_isRightBlank_2 ?_
  refine gh_iload_n C dR_isRightBlank_5 rfl ?_
  refine rw_ild C h0 13 60 ⟨rfl, rfl, rfl, by decide⟩ (e) rfl (by omega) dR_isRightBlank_6 ?_
  refine gh_ti (nI (k + 1)) hD ?_
  refine gh_iconst C 1 dR_isRightBlank_7 (by decide) ?_
  refine gh_isub C dR_isRightBlank_8 ?_
  refine gh_ti (nI k) (nI_pred k) ?_
  refine gh_ishl C dR_isRightBlank_9 ?_
  refine gh_ti (nI (2 ^ k)) (sh1h k (by omega)) ?_
  refine gh_istore_n C [some (.ref (y 0)), some (.int (nI e)), some (.int (nI (2 ^ k))), none] dR_isRightBlank_10 rfl (Nat.le_of_ble_eq_true rfl) ?_
  refine gh_iload_n C dR_isRightBlank_11 rfl ?_
  refine gh_istore_n C [some (.ref (y 0)), some (.int (nI e)), some (.int (nI (2 ^ k))), some (.int (nI (2 ^ k)))] dR_isRightBlank_12 rfl (Nat.le_of_ble_eq_true rfl) ?_
  exact loop (2 ^ k) (2 ^ k) (by omega) (by omega) (fun j h1 h2 => by omega)
def lfo (R : SR) (e D : Nat) (x : Int32) : Bool := (List.range (2 ^ D)).any (fun i => R.2 26 (16 * e + i) == x)
theorem lfo_n {R : SR} {e D : Nat} {x : Int32} : ¬ lfo R e D x = true ↔ ∀ i, i < 2 ^ D → R.2 26 (16 * e + i) ≠ x := by
  unfold lfo
  rw [List.any_eq_true]
  constructor
  · intro h i hi h9
    exact h ⟨i, List.mem_range.mpr hi, by simp [h9]⟩
  · rintro h ⟨i, hi, h9⟩
    exact h i (List.mem_range.mp hi) (by simpa using h9)
set_option maxRecDepth 100000 in
set_option maxHeartbeats 4000000 in
theorem r_leafOf (l : Launch) (d : gh_D) (g : gh_H) {y : Nat → Nat} {R : SR} (hR : rR g y R) (e D : Nat) (x : Int32) (he : e < 60) (hD : R.2 13 e = nI D) (hD4 : D ≤ 4) : gh_C l d mR_leafOf (rr 0 0 0) [.ref (y 0), .int (nI e), .int x] g (fun v g1 => (∃ q : Int32, v = some (.int q) ∧ (q = -1 ↔ ¬ lfo R e D x = true)) ∧ g1 = g) := by
  refine gh_of [some (.ref (y 0)), some (.int (nI e)), some (.int x), none] (by decide) rfl (Nat.le_of_ble_eq_true rfl) (by simp [Value.category]) (fun z C hQ => ?_)
  show gh_W l d z 0 [some (.ref (y 0)), some (.int (nI e)), some (.int x), none] [] g 0 0
  have h0 := rQ.rf hR
  have hp := p2D hD4
  have loop : ∀ (c i : Nat), i + c = 2 ^ D → (∀ j, j < i → R.2 26 (16 * e + j) ≠ x) → gh_W l d z 2 [some (.ref (y 0)), some (.int (nI e)), some (.int x), some (.int (nI i))] [] g 0 0 := by
    intro c
    induction c with
    | zero =>
      intro i hi hb
      have hi : i = 2 ^ D := by omega
      subst hi
      refine gh_iload_n C dR_leafOf_2 rfl ?_
      refine gh_iconst C 1 dR_leafOf_3 (by decide) ?_
      refine gh_aload_n C dR_leafOf_4 rfl ?_
      refine rw_get C h0 fR_38 rfl dR_leafOf_5 ?_
      refine gh_iload_n C dR_leafOf_8 rfl ?_
      refine rw_ild C h0 13 60 ⟨rfl, rfl, rfl, by decide⟩ (e) rfl (by omega) dR_leafOf_9 ?_
      refine gh_ti (nI D) hD ?_
      refine gh_ishl C dR_leafOf_10 ?_
      refine gh_ti (nI (2 ^ D)) (sh1h D hD4) ?_
      refine gh_icmp_ge C 37 dR_leafOf_11 (by decide) (fun c11 => ?_) (fun c11 => ?_)
      ·
        refine gh_iconst C (-1) dR_leafOf_37 (by decide) ?_
        refine gh_iret C hQ rfl dR_leafOf_38 ?_
        exact ⟨⟨-1, rfl, by simp [lfo_n.mpr hb]⟩, rfl⟩
      · exact absurd (nI_le (Nat.le_refl _) (by omega)) c11
    | succ c ih =>
      intro i hi hb
      have hi2 : i < 2 ^ D := by omega
      refine gh_iload_n C dR_leafOf_2 rfl ?_
      refine gh_iconst C 1 dR_leafOf_3 (by decide) ?_
      refine gh_aload_n C dR_leafOf_4 rfl ?_
      refine rw_get C h0 fR_38 rfl dR_leafOf_5 ?_
      refine gh_iload_n C dR_leafOf_8 rfl ?_
      refine rw_ild C h0 13 60 ⟨rfl, rfl, rfl, by decide⟩ (e) rfl (by omega) dR_leafOf_9 ?_
      refine gh_ti (nI D) hD ?_
      refine gh_ishl C dR_leafOf_10 ?_
      refine gh_ti (nI (2 ^ D)) (sh1h D hD4) ?_
      refine gh_icmp_ge C 37 dR_leafOf_11 (by decide) (fun c11 => ?_) (fun c11 => ?_)
      · exact absurd c11 (nI_ge (by omega) (by omega))
      ·
        refine gh_aload_n C dR_leafOf_14 rfl ?_
        refine rw_get C h0 fR_77 rfl dR_leafOf_15 ?_
        refine gh_bipush C 16 dR_leafOf_18 (by decide) ?_
        refine gh_iload_n C dR_leafOf_20 rfl ?_
        refine gh_imul C dR_leafOf_21 ?_
        refine gh_ti (nI (16 * e)) (pk_mul 16 e) ?_
        refine gh_iload_n C dR_leafOf_22 rfl ?_
        refine gh_iadd C dR_leafOf_23 ?_
        refine gh_ti (nI (16 * e + i)) (nI_add (16 * e) i) ?_
        refine rw_ild C h0 26 960 ⟨rfl, rfl, rfl, by decide⟩ (16 * e + i) rfl (by omega) dR_leafOf_24 ?_
        refine gh_iload_n C dR_leafOf_25 rfl ?_
        refine gh_icmp_ne C 31 dR_leafOf_26 (by decide) (fun c26 => ?_) (fun c26 => ?_)
        · refine gh_iinc C (nI (i + 1)) [some (.ref (y 0)), some (.int (nI e)), some (.int x), some (.int (nI (i + 1)))] dR_leafOf_31 rfl (gh_inc i) rfl ?_
          refine gh_goto C 2 dR_leafOf_34 (by decide) ?_
          exact ih (i + 1) (by omega) (fun j h4 => by
            by_cases e9 : j = i
            · subst e9; exact c26
            · exact hb j (by omega))
        ·
          refine gh_iload_n C dR_leafOf_29 rfl ?_
          refine gh_iret C hQ rfl dR_leafOf_30 ?_
          exact ⟨⟨nI i, rfl, ⟨fun h => absurd h (nI_ne1 (by omega)), fun h => absurd c26 (lfo_n.mp h i hi2)⟩⟩, rfl⟩
  refine gh_iconst C 0 dR_leafOf_0 (by decide) ?_
  refine gh_istore_n C [some (.ref (y 0)), some (.int (nI e)), some (.int x), some (.int 0)] dR_leafOf_1 rfl (Nat.le_of_ble_eq_true rfl) ?_
  exact loop (2 ^ D) 0 (by omega) (fun j h => absurd h (Nat.not_lt_zero j))
set_option maxRecDepth 100000 in
set_option maxHeartbeats 4000000 in
theorem r_freeLeaf (l : Launch) (d : gh_D) (g : gh_H) {y : Nat → Nat} {R : SR} (hR : rR g y R) (e D : Nat) (he : e < 60) (hD : R.2 13 e = nI D) (hD4 : D ≤ 4) : gh_C l d mR_freeLeaf (rr 0 0 0) [.ref (y 0), .int (nI e)] g (fun v g1 => v = some (.int (nI (fbl D (rK R e)))) ∧ g1 = g) := by
  refine gh_of [some (.ref (y 0)), some (.int (nI e)), none] (by decide) rfl (Nat.le_of_ble_eq_true rfl) (by simp [Value.category]) (fun z C hQ => ?_)
  show gh_W l d z 0 [some (.ref (y 0)), some (.int (nI e)), none] [] g 0 0
  have h0 := rQ.rf hR
  have hp := p2D hD4
  have loop : ∀ (c i : Nat), i + c = 2 ^ D → (∀ j, j < i → rK R e (2 * j) ≠ -1) → gh_W l d z 2 [some (.ref (y 0)), some (.int (nI e)), some (.int (nI i))] [] g 0 0 := by
    intro c
    induction c with
    | zero =>
      intro i hi hb
      have hi : i = 2 ^ D := by omega
      subst hi
      refine gh_iload_n C dR_freeLeaf_2 rfl ?_
      refine gh_iconst C 1 dR_freeLeaf_3 (by decide) ?_
      refine gh_aload_n C dR_freeLeaf_4 rfl ?_
      refine rw_get C h0 fR_38 rfl dR_freeLeaf_5 ?_
      refine gh_iload_n C dR_freeLeaf_8 rfl ?_
      refine rw_ild C h0 13 60 ⟨rfl, rfl, rfl, by decide⟩ (e) rfl (by omega) dR_freeLeaf_9 ?_
      refine gh_ti (nI D) hD ?_
      refine gh_ishl C dR_freeLeaf_10 ?_
      refine gh_ti (nI (2 ^ D)) (sh1h D hD4) ?_
      refine gh_icmp_ge C 37 dR_freeLeaf_11 (by decide) (fun c11 => ?_) (fun c11 => ?_)
      ·
        refine gh_iload_n C dR_freeLeaf_37 rfl ?_
        refine gh_iret C hQ rfl dR_freeLeaf_38 ?_
        exact ⟨by rw [fbl_no hb], rfl⟩
      · exact absurd (nI_le (Nat.le_refl _) (by omega)) c11
    | succ c ih =>
      intro i hi hb
      have hi2 : i < 2 ^ D := by omega
      refine gh_iload_n C dR_freeLeaf_2 rfl ?_
      refine gh_iconst C 1 dR_freeLeaf_3 (by decide) ?_
      refine gh_aload_n C dR_freeLeaf_4 rfl ?_
      refine rw_get C h0 fR_38 rfl dR_freeLeaf_5 ?_
      refine gh_iload_n C dR_freeLeaf_8 rfl ?_
      refine rw_ild C h0 13 60 ⟨rfl, rfl, rfl, by decide⟩ (e) rfl (by omega) dR_freeLeaf_9 ?_
      refine gh_ti (nI D) hD ?_
      refine gh_ishl C dR_freeLeaf_10 ?_
      refine gh_ti (nI (2 ^ D)) (sh1h D hD4) ?_
      refine gh_icmp_ge C 37 dR_freeLeaf_11 (by decide) (fun c11 => ?_) (fun c11 => ?_)
      · exact absurd c11 (nI_ge (by omega) (by omega))
      ·
        refine gh_aload_n C dR_freeLeaf_14 rfl ?_
        refine rw_get C h0 fR_65 rfl dR_freeLeaf_15 ?_
        refine gh_bipush C 31 dR_freeLeaf_18 (by decide) ?_
        refine gh_iload_n C dR_freeLeaf_20 rfl ?_
        refine gh_imul C dR_freeLeaf_21 ?_
        refine gh_ti (nI (31 * e)) (pk_mul 31 e) ?_
        refine gh_iconst C 2 dR_freeLeaf_22 (by decide) ?_
        refine gh_iload_n C dR_freeLeaf_23 rfl ?_
        refine gh_imul C dR_freeLeaf_24 ?_
        refine gh_ti (nI (2 * i)) (pk_mul 2 i) ?_
        refine gh_iadd C dR_freeLeaf_25 ?_
        refine gh_ti (nI (31 * e + 2 * i)) (nI_add (31 * e) (2 * i)) ?_
        refine rw_ild C h0 22 1860 ⟨rfl, rfl, rfl, by decide⟩ (31 * e + 2 * i) rfl (by omega) dR_freeLeaf_26 ?_
        refine gh_iconst C (-1) dR_freeLeaf_27 (by decide) ?_
        refine gh_icmp_eq C 37 dR_freeLeaf_28 (by decide) (fun c28 => ?_) (fun c28 => ?_)
        ·
          refine gh_iload_n C dR_freeLeaf_37 rfl ?_
          refine gh_iret C hQ rfl dR_freeLeaf_38 ?_
          exact ⟨by rw [fbl_at hi2 c28 hb], rfl⟩
        · refine gh_iinc C (nI (i + 1)) [some (.ref (y 0)), some (.int (nI e)), some (.int (nI (i + 1)))] dR_freeLeaf_31 rfl (gh_inc i) rfl ?_
          refine gh_goto C 2 dR_freeLeaf_34 (by decide) ?_
          exact ih (i + 1) (by omega) (fun j h4 => by
            by_cases e9 : j = i
            · subst e9; exact c28
            · exact hb j (by omega))
  refine gh_iconst C 0 dR_freeLeaf_0 (by decide) ?_
  refine gh_istore_n C [some (.ref (y 0)), some (.int (nI e)), some (.int 0)] dR_freeLeaf_1 rfl (Nat.le_of_ble_eq_true rfl) ?_
  exact loop (2 ^ D) 0 (by omega) (fun j h => absurd h (Nat.not_lt_zero j))
def mbR (R : SR) (e D p m : Nat) : Bool := decide (R.2 39 p = -1) && !lfo R e D (nI m) && (decide (R.2 27 m = -1) || (decide (R.2 27 m = nI (e - 1)) && decide (¬ R.2 17 e &&& bitN (R.2 28 m).toNatClampNeg = 0)))
set_option maxRecDepth 100000 in
set_option maxHeartbeats 4000000 in
theorem r_mayAdd (l : Launch) (d : gh_D) (g : gh_H) {y : Nat → Nat} {R : SR} (hR : rR g y R) (e D p m : Nat) (he : e < 60) (he1 : 1 ≤ e) (hp : p < 60) (hD : R.2 13 e = nI D) (hD4 : D ≤ 4) (hm : m < 16) (hpm : R.2 36 p = nI m) (hl : R.2 27 m = nI (e - 1) → ∃ a, a < 16 ∧ R.2 28 m = nI a) : gh_C l d mR_mayAdd (rr 1 0 0) [.ref (y 0), .int (nI e), .int (nI p)] g (fun v g1 => v = some (.int (if mbR R e D p m = true then 1 else 0)) ∧ g1 = g) := by
  refine gh_of [some (.ref (y 0)), some (.int (nI e)), some (.int (nI p)), none] (by decide) rfl (Nat.le_of_ble_eq_true rfl) (by simp [Value.category]) (fun z C hQ => ?_)
  show gh_W l d z 0 [some (.ref (y 0)), some (.int (nI e)), some (.int (nI p)), none] [] g 0 0
  have h0 := rQ.rf hR
  refine gh_aload_n C dR_mayAdd_0 rfl ?_
  refine rw_get C h0 fR_104 rfl dR_mayAdd_1 ?_
  refine gh_iload_n C dR_mayAdd_4 rfl ?_
  refine rw_ild C h0 36 60 ⟨rfl, rfl, rfl, by decide⟩ (p) rfl (by omega) dR_mayAdd_5 ?_
  refine gh_ti (nI m) hpm ?_
  refine gh_istore_n C [some (.ref (y 0)), some (.int (nI e)), some (.int (nI p)), some (.int (nI m))] dR_mayAdd_6 rfl (Nat.le_of_ble_eq_true rfl) ?_
  refine gh_aload_n C dR_mayAdd_7 rfl ?_
  refine rw_get C h0 fR_113 rfl dR_mayAdd_8 ?_
  refine gh_iload_n C dR_mayAdd_11 rfl ?_
  refine rw_ild C h0 39 60 ⟨rfl, rfl, rfl, by decide⟩ (p) rfl (by omega) dR_mayAdd_12 ?_
  refine gh_iconst C (-1) dR_mayAdd_13 (by decide) ?_
  refine gh_icmp_ne C 27 dR_mayAdd_14 (by decide) (fun c14 => ?_) (fun c14 => ?_)
  ·
    have hz : ¬ mbR R e D p m = true := by simp [mbR, c14]
    refine gh_iconst C 0 dR_mayAdd_27 (by decide) ?_
    refine gh_zret C hQ rfl (by simp) dR_mayAdd_28 ?_
    first | exact ⟨by rw [if_pos hz], rfl⟩ | exact ⟨by rw [if_neg hz], rfl⟩
  ·
    refine gh_aload_n C dR_mayAdd_17 rfl ?_
    refine gh_iload_n C dR_mayAdd_18 rfl ?_
    refine gh_iload_n C dR_mayAdd_19 rfl ?_
    refine gh_callV C [.int (nI e), .int (nI m)] (r_leafOf l d _ h0.1 e D (nI m) he hD hD4) lR_208 wR_leafOf vR_leafOf h0.1.1 rfl rfl rfl (Nat.le_of_ble_eq_true rfl) ⟨Nat.le_of_ble_eq_true rfl, Nat.le_of_ble_eq_true rfl⟩ (Nat.le_of_ble_eq_true rfl) (Nat.le_of_ble_eq_true rfl) dR_mayAdd_20 (fun v101 g101 k101 => ?_)
    obtain ⟨⟨q, rfl, hq⟩, e101⟩ := k101
    subst g101
    have h101 := h0
    refine gh_iconst C (-1) dR_mayAdd_23 (by decide) ?_
    refine gh_icmp_eq C 29 dR_mayAdd_24 (by decide) (fun c24 => ?_) (fun c24 => ?_)
    ·
      have hlf : lfo R e D (nI m) = false := by simpa using hq.mp c24
      refine gh_aload_n C dR_mayAdd_29 rfl ?_
      refine rw_get C h101 fR_80 rfl dR_mayAdd_30 ?_
      refine gh_iload_n C dR_mayAdd_33 rfl ?_
      refine rw_ild C h101 27 16 ⟨rfl, rfl, rfl, by decide⟩ (m) rfl (by omega) dR_mayAdd_34 ?_
      refine gh_iconst C (-1) dR_mayAdd_35 (by decide) ?_
      refine gh_icmp_eq C 70 dR_mayAdd_36 (by decide) (fun c36 => ?_) (fun c36 => ?_)
      ·
        have hz : mbR R e D p m = true := by simp [mbR, c14, hlf, c36]
        refine gh_iconst C 1 dR_mayAdd_70 (by decide) ?_
        refine gh_goto C 75 dR_mayAdd_71 (by decide) ?_
        refine gh_zret C hQ rfl (by simp) dR_mayAdd_75 ?_
        first | exact ⟨by rw [if_pos hz], rfl⟩ | exact ⟨by rw [if_neg hz], rfl⟩
      ·
        refine gh_aload_n C dR_mayAdd_39 rfl ?_
        refine rw_get C h101 fR_80 rfl dR_mayAdd_40 ?_
        refine gh_iload_n C dR_mayAdd_43 rfl ?_
        refine rw_ild C h101 27 16 ⟨rfl, rfl, rfl, by decide⟩ (m) rfl (by omega) dR_mayAdd_44 ?_
        refine gh_iload_n C dR_mayAdd_45 rfl ?_
        refine gh_iconst C 1 dR_mayAdd_46 (by decide) ?_
        refine gh_isub C dR_mayAdd_47 ?_
        refine gh_ti (nI (e - 1)) (pred_n he1) ?_
        refine gh_icmp_ne C 74 dR_mayAdd_48 (by decide) (fun c48 => ?_) (fun c48 => ?_)
        ·
          have hz : ¬ mbR R e D p m = true := by simp [mbR, c36, c48]
          refine gh_iconst C 0 dR_mayAdd_74 (by decide) ?_
          refine gh_zret C hQ rfl (by simp) dR_mayAdd_75 ?_
          first | exact ⟨by rw [if_pos hz], rfl⟩ | exact ⟨by rw [if_neg hz], rfl⟩
        ·
          obtain ⟨a, ha, hla⟩ := hl c48
          have hcl : (R.2 28 m).toNatClampNeg = a := by rw [hla]; exact nI_clamp (by omega)
          refine gh_aload_n C dR_mayAdd_51 rfl ?_
          refine rw_get C h101 fR_50 rfl dR_mayAdd_52 ?_
          refine gh_iload_n C dR_mayAdd_55 rfl ?_
          refine rw_ild C h101 17 60 ⟨rfl, rfl, rfl, by decide⟩ (e) rfl (by omega) dR_mayAdd_56 ?_
          refine gh_aload_n C dR_mayAdd_57 rfl ?_
          refine rw_get C h101 fR_83 rfl dR_mayAdd_58 ?_
          refine gh_iload_n C dR_mayAdd_61 rfl ?_
          refine rw_ild C h101 28 16 ⟨rfl, rfl, rfl, by decide⟩ (m) rfl (by omega) dR_mayAdd_62 ?_
          refine gh_ti (nI a) hla ?_
          refine gh_ishr C dR_mayAdd_63 ?_
          refine gh_iconst C 1 dR_mayAdd_64 (by decide) ?_
          refine gh_iand C dR_mayAdd_65 ?_
          refine gh_iconst C 1 dR_mayAdd_66 (by decide) ?_
          refine gh_icmp_ne C 74 dR_mayAdd_67 (by decide) (fun c67 => ?_) (fun c67 => ?_)
          ·
            have hz : ¬ mbR R e D p m = true := by
              have h9 : R.2 17 e &&& bitN a = 0 := by
                by_cases h8 : R.2 17 e &&& bitN a = 0
                · exact h8
                · exact absurd ((bt1 (by omega)).mpr h8) c67
              simp [mbR, c36, hcl, h9]
            refine gh_iconst C 0 dR_mayAdd_74 (by decide) ?_
            refine gh_zret C hQ rfl (by simp) dR_mayAdd_75 ?_
            first | exact ⟨by rw [if_pos hz], rfl⟩ | exact ⟨by rw [if_neg hz], rfl⟩
          ·
            have hz : mbR R e D p m = true := by simp [mbR, c14, hlf, c48, hcl, (bt1 (by omega)).mp c67]
            refine gh_iconst C 1 dR_mayAdd_70 (by decide) ?_
            refine gh_goto C 75 dR_mayAdd_71 (by decide) ?_
            refine gh_zret C hQ rfl (by simp) dR_mayAdd_75 ?_
            first | exact ⟨by rw [if_pos hz], rfl⟩ | exact ⟨by rw [if_neg hz], rfl⟩
    ·
      have hz : ¬ mbR R e D p m = true := by
        have h9 : lfo R e D (nI m) = true := by
          by_cases h8 : lfo R e D (nI m) = true
          · exact h8
          · exact absurd (hq.mpr h8) c24
        simp [mbR, h9]
      refine gh_iconst C 0 dR_mayAdd_27 (by decide) ?_
      refine gh_zret C hQ rfl (by simp) dR_mayAdd_28 ?_
      first | exact ⟨by rw [if_pos hz], rfl⟩ | exact ⟨by rw [if_neg hz], rfl⟩
