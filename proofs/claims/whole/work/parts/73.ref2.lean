/-! leave, hold, gather -/
theorem inn_if (n : Nat) (x : Int32) : (if 0 ≤ x ∧ x < nI n then (1 : Int32) else 0) = if inn n x = true then 1 else 0 := by simp [inn]
theorem r_inn (l : Launch) (d : gh_D) (g : gh_H) (n : Nat) (x : Int32) : gh_C l d mR_in (rr 0 0 0) [.int x, .int (nI n)] g (fun v g1 => v = some (.int (if inn n x = true then 1 else 0)) ∧ g1 = g) := by
  have h := r_in l d g x (nI n)
  rw [inn_if] at h
  exact h
def nkF (m n : Nat) (F : Nat → Int32) : Nat → Int32 := fun i => if 31 * m ≤ i ∧ i < 31 * m + n then -1 else F i
theorem nkF_0 (m : Nat) (F : Nat → Int32) : nkF m 0 F = F := by
  funext i
  simp only [nkF]
  rw [if_neg (by omega)]
theorem nkF_s (m n : Nat) (F : Nat → Int32) : upd (nkF m n F) (31 * m + n) (-1) = nkF m (n + 1) F := by
  funext i
  simp only [upd, nkF]
  by_cases h : i = 31 * m + n
  · rw [if_pos h, if_pos (by omega)]
  · rw [if_neg h]
    by_cases h2 : 31 * m ≤ i ∧ i < 31 * m + n
    · rw [if_pos h2, if_pos (by omega)]
    · rw [if_neg h2, if_neg (by omega)]
def lvR0 (R : SR) (m : Nat) : SR := ra (ra (ra (ra (ra R 27 (upd (R.2 27) m (-1))) 28 (upd (R.2 28) m (-1))) 29 (upd (R.2 29) m (-1))) 32 (upd (R.2 32) m 0)) 31 (upd (R.2 31) m 0)
def lvR (R : SR) (m : Nat) : SR := ra (lvR0 R m) 33 (nkF m 31 (R.2 33))
set_option maxRecDepth 100000 in
set_option maxHeartbeats 4000000 in
theorem r_leave (l : Launch) (d : gh_D) (g : gh_H) {y : Nat → Nat} {R : SR} (hR : rR g y R) (m : Nat) (hm : m < 16) : gh_C l d mR_leave (rr 0 0 0) [.ref (y 0), .int (nI m)] g (fun v g1 => v = none ∧ rQ g g1 y (lvR R m)) := by
  refine gh_of [some (.ref (y 0)), some (.int (nI m)), none] (by decide) rfl (Nat.le_of_ble_eq_true rfl) (by simp [Value.category]) (fun z C hQ => ?_)
  show gh_W l d z 0 [some (.ref (y 0)), some (.int (nI m)), none] [] g 0 0
  have h0 := rQ.rf hR
  have loop : ∀ (c i : Nat) (g1 : gh_H), i + c = 31 → rQ g g1 y (ra (lvR0 R m) 33 (nkF m i (R.2 33))) → gh_W l d z 37 [some (.ref (y 0)), some (.int (nI m)), some (.int (nI i))] [] g1 0 0 := by
    intro c
    induction c with
    | zero =>
      intro i g1 hi h1
      have hi : i = 31 := by omega
      subst hi
      refine gh_iload_n C dR_leave_37 rfl ?_
      refine gh_bipush C 31 dR_leave_38 (by decide) ?_
      refine gh_icmp_ge C 61 dR_leave_40 (by decide) (fun c40 => ?_) (fun c40 => ?_)
      ·
        refine gh_vret C hQ rfl dR_leave_61 ?_
        exact ⟨rfl, h1⟩
      · exact absurd (show (31 : Int32) ≤ nI 31 from nI_le (Nat.le_refl 31) (by decide)) c40
    | succ c ih =>
      intro i g1 hi h1
      refine gh_iload_n C dR_leave_37 rfl ?_
      refine gh_bipush C 31 dR_leave_38 (by decide) ?_
      refine gh_icmp_ge C 61 dR_leave_40 (by decide) (fun c40 => ?_) (fun c40 => ?_)
      · exact absurd c40 (show ¬ nI 31 ≤ nI i from nI_ge (by omega) (by decide))
      ·
        refine gh_aload_n C dR_leave_43 rfl ?_
        refine rw_get C h1 fR_98 rfl dR_leave_44 ?_
        refine gh_bipush C 31 dR_leave_47 (by decide) ?_
        refine gh_iload_n C dR_leave_49 rfl ?_
        refine gh_imul C dR_leave_50 ?_
        refine gh_ti (nI (31 * m)) (pk_mul 31 m) ?_
        refine gh_iload_n C dR_leave_51 rfl ?_
        refine gh_iadd C dR_leave_52 ?_
        refine gh_ti (nI (31 * m + i)) (nI_add (31 * m) i) ?_
        refine gh_iconst C (-1) dR_leave_53 (by decide) ?_
        refine rw_ist C h1 33 496 ⟨rfl, rfl, rfl, by decide⟩ (31 * m + i) rfl (by omega) dR_leave_54 (fun g101 h101 => ?_)
        have h101 : rQ g g101 y (ra (ra (lvR0 R m) 33 (nkF m i (R.2 33))) 33 (upd ((ra (lvR0 R m) 33 (nkF m i (R.2 33))).2 33) (31 * m + i) (-1))) := h101
        refine gh_iinc C (nI (i + 1)) [some (.ref (y 0)), some (.int (nI m)), some (.int (nI (i + 1)))] dR_leave_55 rfl (gh_inc i) rfl ?_
        refine gh_goto C 37 dR_leave_58 (by decide) ?_
        refine ih (i + 1) _ (by omega) ?_
        have e9 : ra (ra (lvR0 R m) 33 (nkF m i (R.2 33))) 33 (upd (nkF m i (R.2 33)) (31 * m + i) (-1)) = ra (lvR0 R m) 33 (nkF m (i + 1) (R.2 33)) := by
          rw [nkF_s]
          refine Prod.ext rfl ?_
          funext a
          by_cases ha : a = 33
          · simp [ra, ha]
          · simp [ra, ha]
        rw [← e9]
        exact h101
  refine gh_aload_n C dR_leave_0 rfl ?_
  refine rw_get C h0 fR_80 rfl dR_leave_1 ?_
  refine gh_iload_n C dR_leave_4 rfl ?_
  refine gh_iconst C (-1) dR_leave_5 (by decide) ?_
  refine rw_ist C h0 27 16 ⟨rfl, rfl, rfl, by decide⟩ (m) rfl (by omega) dR_leave_6 (fun g101 h101 => ?_)
  have h101 : rQ g g101 y (ra R 27 (upd (R.2 27) m (-1))) := h101
  refine gh_aload_n C dR_leave_7 rfl ?_
  refine rw_get C h101 fR_83 rfl dR_leave_8 ?_
  refine gh_iload_n C dR_leave_11 rfl ?_
  refine gh_iconst C (-1) dR_leave_12 (by decide) ?_
  refine rw_ist C h101 28 16 ⟨rfl, rfl, rfl, by decide⟩ (m) rfl (by omega) dR_leave_13 (fun g102 h102 => ?_)
  have h102 : rQ g g102 y (ra (ra R 27 (upd (R.2 27) m (-1))) 28 (upd (R.2 28) m (-1))) := h102
  refine gh_aload_n C dR_leave_14 rfl ?_
  refine rw_get C h102 fR_86 rfl dR_leave_15 ?_
  refine gh_iload_n C dR_leave_18 rfl ?_
  refine gh_iconst C (-1) dR_leave_19 (by decide) ?_
  refine rw_ist C h102 29 16 ⟨rfl, rfl, rfl, by decide⟩ (m) rfl (by omega) dR_leave_20 (fun g103 h103 => ?_)
  have h103 : rQ g g103 y (ra (ra (ra R 27 (upd (R.2 27) m (-1))) 28 (upd (R.2 28) m (-1))) 29 (upd (R.2 29) m (-1))) := h103
  refine gh_aload_n C dR_leave_21 rfl ?_
  refine rw_get C h103 fR_95 rfl dR_leave_22 ?_
  refine gh_iload_n C dR_leave_25 rfl ?_
  refine gh_iconst C 0 dR_leave_26 (by decide) ?_
  refine rw_zst C h103 32 16 ⟨rfl, rfl, rfl, by decide⟩ (m) rfl (by omega) rfl dR_leave_27 (fun g104 h104 => ?_)
  have h104 : rQ g g104 y (ra (ra (ra (ra R 27 (upd (R.2 27) m (-1))) 28 (upd (R.2 28) m (-1))) 29 (upd (R.2 29) m (-1))) 32 (upd (R.2 32) m 0)) := h104
  refine gh_aload_n C dR_leave_28 rfl ?_
  refine rw_get C h104 fR_92 rfl dR_leave_29 ?_
  refine gh_iload_n C dR_leave_32 rfl ?_
  refine gh_iconst C 0 dR_leave_33 (by decide) ?_
  refine rw_ist C h104 31 16 ⟨rfl, rfl, rfl, by decide⟩ (m) rfl (by omega) dR_leave_34 (fun g105 h105 => ?_)
  have h105 : rQ g g105 y (ra (ra (ra (ra (ra R 27 (upd (R.2 27) m (-1))) 28 (upd (R.2 28) m (-1))) 29 (upd (R.2 29) m (-1))) 32 (upd (R.2 32) m 0)) 31 (upd (R.2 31) m 0)) := h105
  refine gh_iconst C 0 dR_leave_35 (by decide) ?_
  refine gh_istore_n C [some (.ref (y 0)), some (.int (nI m)), some (.int 0)] dR_leave_36 rfl (Nat.le_of_ble_eq_true rfl) ?_
  refine loop 31 0 _ (by omega) ?_
  have e9 : ra (lvR0 R m) 33 (nkF m 0 (R.2 33)) = lvR0 R m := by
    rw [nkF_0]
    refine Prod.ext rfl ?_
    funext a
    by_cases ha : a = 33
    · subst ha; rfl
    · simp [ra, ha]
  rw [e9]
  exact h105
def lst (R : SR) : List Int32 := (List.range (R.1 46)).map (R.2 47)
def hdR (R : SR) (s : Int32) : SR := if s ∈ lst R then R else ri (ra R 47 (upd (R.2 47) (R.1 46) s)) 46 (R.1 46 + 1)
theorem lst_m {R : SR} {s : Int32} : s ∈ lst R ↔ ∃ i, i < R.1 46 ∧ R.2 47 i = s := by
  unfold lst
  simp [List.mem_map, List.mem_range]
set_option maxRecDepth 100000 in
set_option maxHeartbeats 4000000 in
theorem r_hold (l : Launch) (d : gh_D) (g : gh_H) {y : Nat → Nat} {R : SR} (hR : rR g y R) (s : Int32) (hN : R.1 46 < 256) : gh_C l d mR_hold (rr 0 0 0) [.ref (y 0), .int s] g (fun v g1 => v = none ∧ rQ g g1 y (hdR R s)) := by
  refine gh_of [some (.ref (y 0)), some (.int s), none] (by decide) rfl (Nat.le_of_ble_eq_true rfl) (by simp [Value.category]) (fun z C hQ => ?_)
  show gh_W l d z 0 [some (.ref (y 0)), some (.int s), none] [] g 0 0
  have h0 := rQ.rf hR
  have loop : ∀ (c i : Nat), i + c = R.1 46 → (∀ j, j < i → R.2 47 j ≠ s) → gh_W l d z 2 [some (.ref (y 0)), some (.int s), some (.int (nI i))] [] g 0 0 := by
    intro c
    induction c with
    | zero =>
      intro i hi hb
      have hi : i = R.1 46 := by omega
      subst hi
      have eH : hdR R s = ri (ra R 47 (upd (R.2 47) (R.1 46) s)) 46 (R.1 46 + 1) := if_neg (fun h => by
        obtain ⟨j, hj, he⟩ := lst_m.mp h
        exact hb j hj he)
      refine gh_iload_n C dR_hold_2 rfl ?_
      refine gh_aload_n C dR_hold_3 rfl ?_
      refine rw_get C h0 fR_183 rfl dR_hold_4 ?_
      refine gh_icmp_ge C 27 dR_hold_7 (by decide) (fun c7 => ?_) (fun c7 => ?_)
      ·
        refine gh_aload_n C dR_hold_27 rfl ?_
        refine rw_get C h0 fR_131 rfl dR_hold_28 ?_
        refine gh_aload_n C dR_hold_31 rfl ?_
        refine rw_get C h0 fR_183 rfl dR_hold_32 ?_
        refine gh_iload_n C dR_hold_35 rfl ?_
        refine rw_ist C h0 47 256 ⟨rfl, rfl, rfl, by decide⟩ (R.1 46) rfl (by omega) dR_hold_36 (fun g101 h101 => ?_)
        have h101 : rQ g g101 y (ra R 47 (upd (R.2 47) (R.1 46) s)) := h101
        refine gh_aload_n C dR_hold_37 rfl ?_
        refine gh_dup C dR_hold_38 rfl ?_
        refine rw_get C h101 fR_183 rfl dR_hold_39 ?_
        refine gh_ti (nI (R.1 46)) rfl ?_
        refine gh_iconst C 1 dR_hold_42 (by decide) ?_
        refine gh_iadd C dR_hold_43 ?_
        refine gh_ti (nI (R.1 46 + 1)) (nI_add (R.1 46) 1) ?_
        refine rw_put C h101 (R.1 46 + 1) rfl pR_183 (by decide) rfl (by decide) (fun _ => rfl) (fun _ => rfl) dR_hold_44 (fun g102 h102 => ?_)
        refine gh_vret C hQ rfl dR_hold_47 ?_
        exact ⟨rfl, by rw [eH]; exact h102⟩
      · exact absurd (nI_le (Nat.le_refl (R.1 46)) (by omega)) c7
    | succ c ih =>
      intro i hi hb
      have hlt : i < R.1 46 := by omega
      refine gh_iload_n C dR_hold_2 rfl ?_
      refine gh_aload_n C dR_hold_3 rfl ?_
      refine rw_get C h0 fR_183 rfl dR_hold_4 ?_
      refine gh_icmp_ge C 27 dR_hold_7 (by decide) (fun c7 => ?_) (fun c7 => ?_)
      · exact absurd c7 (nI_ge hlt (by omega))
      ·
        refine gh_aload_n C dR_hold_10 rfl ?_
        refine rw_get C h0 fR_131 rfl dR_hold_11 ?_
        refine gh_iload_n C dR_hold_14 rfl ?_
        refine rw_ild C h0 47 256 ⟨rfl, rfl, rfl, by decide⟩ (i) rfl (by omega) dR_hold_15 ?_
        refine gh_iload_n C dR_hold_16 rfl ?_
        refine gh_icmp_ne C 21 dR_hold_17 (by decide) (fun c17 => ?_) (fun c17 => ?_)
        ·
          refine gh_iinc C (nI (i + 1)) [some (.ref (y 0)), some (.int s), some (.int (nI (i + 1)))] dR_hold_21 rfl (gh_inc i) rfl ?_
          refine gh_goto C 2 dR_hold_24 (by decide) ?_
          exact ih (i + 1) (by omega) (fun j hj => by
            by_cases e : j = i
            · subst e; exact c17
            · exact hb j (by omega))
        ·
          have eH : hdR R s = R := if_pos (lst_m.mpr ⟨i, hlt, c17⟩)
          refine gh_vret C hQ rfl dR_hold_20 ?_
          exact ⟨rfl, by rw [eH]; exact h0⟩
  refine gh_iconst C 0 dR_hold_0 (by decide) ?_
  refine gh_istore_n C [some (.ref (y 0)), some (.int s), some (.int 0)] dR_hold_1 rfl (Nat.le_of_ble_eq_true rfl) ?_
  exact loop (R.1 46) 0 (by omega) (fun j hj => absurd hj (Nat.not_lt_zero j))
set_option maxRecDepth 100000 in
set_option maxHeartbeats 4000000 in
theorem r_isHeld (l : Launch) (d : gh_D) (g : gh_H) {y : Nat → Nat} {R : SR} (hR : rR g y R) (s : Int32) (hN : R.1 46 ≤ 256) : gh_C l d mR_isHeld (rr 0 0 0) [.ref (y 0), .int s] g (fun v g1 => v = some (.int (if s ∈ lst R then 1 else 0)) ∧ g1 = g) := by
  refine gh_of [some (.ref (y 0)), some (.int s), none] (by decide) rfl (Nat.le_of_ble_eq_true rfl) (by simp [Value.category]) (fun z C hQ => ?_)
  show gh_W l d z 0 [some (.ref (y 0)), some (.int s), none] [] g 0 0
  have h0 := rQ.rf hR
  have loop : ∀ (c i : Nat), i + c = R.1 46 → (∀ j, j < i → R.2 47 j ≠ s) → gh_W l d z 2 [some (.ref (y 0)), some (.int s), some (.int (nI i))] [] g 0 0 := by
    intro c
    induction c with
    | zero =>
      intro i hi hb
      have hi : i = R.1 46 := by omega
      subst hi
      have eH : ¬ s ∈ lst R := fun h => by
        obtain ⟨j, hj, he⟩ := lst_m.mp h
        exact hb j hj he
      refine gh_iload_n C dR_isHeld_2 rfl ?_
      refine gh_aload_n C dR_isHeld_3 rfl ?_
      refine rw_get C h0 fR_183 rfl dR_isHeld_4 ?_
      refine gh_icmp_ge C 28 dR_isHeld_7 (by decide) (fun c7 => ?_) (fun c7 => ?_)
      ·
        refine gh_iconst C 0 dR_isHeld_28 (by decide) ?_
        refine gh_zret C hQ rfl (by simp) dR_isHeld_29 ?_
        exact ⟨by rw [if_neg eH], rfl⟩
      · exact absurd (nI_le (Nat.le_refl (R.1 46)) (by omega)) c7
    | succ c ih =>
      intro i hi hb
      have hlt : i < R.1 46 := by omega
      refine gh_iload_n C dR_isHeld_2 rfl ?_
      refine gh_aload_n C dR_isHeld_3 rfl ?_
      refine rw_get C h0 fR_183 rfl dR_isHeld_4 ?_
      refine gh_icmp_ge C 28 dR_isHeld_7 (by decide) (fun c7 => ?_) (fun c7 => ?_)
      · exact absurd c7 (nI_ge hlt (by omega))
      ·
        refine gh_aload_n C dR_isHeld_10 rfl ?_
        refine rw_get C h0 fR_131 rfl dR_isHeld_11 ?_
        refine gh_iload_n C dR_isHeld_14 rfl ?_
        refine rw_ild C h0 47 256 ⟨rfl, rfl, rfl, by decide⟩ (i) rfl (by omega) dR_isHeld_15 ?_
        refine gh_iload_n C dR_isHeld_16 rfl ?_
        refine gh_icmp_ne C 22 dR_isHeld_17 (by decide) (fun c17 => ?_) (fun c17 => ?_)
        ·
          refine gh_iinc C (nI (i + 1)) [some (.ref (y 0)), some (.int s), some (.int (nI (i + 1)))] dR_isHeld_22 rfl (gh_inc i) rfl ?_
          refine gh_goto C 2 dR_isHeld_25 (by decide) ?_
          exact ih (i + 1) (by omega) (fun j hj => by
            by_cases e : j = i
            · subst e; exact c17
            · exact hb j (by omega))
        ·
          have eH : s ∈ lst R := lst_m.mpr ⟨i, hlt, c17⟩
          refine gh_iconst C 1 dR_isHeld_20 (by decide) ?_
          refine gh_zret C hQ rfl (by simp) dR_isHeld_21 ?_
          exact ⟨by rw [if_pos eH], rfl⟩
  refine gh_iconst C 0 dR_isHeld_0 (by decide) ?_
  refine gh_istore_n C [some (.ref (y 0)), some (.int s), some (.int 0)] dR_isHeld_1 rfl (Nat.le_of_ble_eq_true rfl) ?_
  exact loop (R.1 46) 0 (by omega) (fun j hj => absurd hj (Nat.not_lt_zero j))
/-! gather -/
def hF (R : SR) (L : List Int32) : SR := L.foldl hdR R
theorem hF_s (R : SR) (L : List Int32) (s : Int32) : hF R (L ++ [s]) = hdR (hF R L) s := by unfold hF; rw [List.foldl_append]; rfl
theorem hdR_f (R : SR) (s : Int32) : (∀ a, a ≠ 46 → (hdR R s).1 a = R.1 a) ∧ (∀ a, a ≠ 47 → (hdR R s).2 a = R.2 a) ∧ (hdR R s).1 46 ≤ R.1 46 + 1 := by
  unfold hdR
  split
  · exact ⟨fun _ _ => rfl, fun _ _ => rfl, Nat.le_succ _⟩
  · exact ⟨fun a h => by simp [ri, ra, h], fun a h => by simp [ri, ra, h], by simp [ri]⟩
theorem hF_f (R : SR) (L : List Int32) : (∀ a, a ≠ 46 → (hF R L).1 a = R.1 a) ∧ (∀ a, a ≠ 47 → (hF R L).2 a = R.2 a) ∧ (hF R L).1 46 ≤ R.1 46 + L.length := by
  unfold hF
  induction L generalizing R with
  | nil => exact ⟨fun _ _ => rfl, fun _ _ => rfl, Nat.le_refl _⟩
  | cons s L ih =>
    have h1 := hdR_f R s
    have h2 := ih (hdR R s)
    refine ⟨fun a h => (h2.1 a h).trans (h1.1 a h), fun a h => (h2.2.1 a h).trans (h1.2.1 a h), ?_⟩
    have := h2.2.2
    simp only [List.foldl_cons, List.length_cons]
    omega
def c1 (R : SR) (m : Nat) : List Int32 := if R.2 32 m = 0 then [] else [R.2 14 (R.2 27 m).toNatClampNeg]
def c2 (R : SR) (m : Nat) : List Int32 := if R.2 29 m = -1 then [] else [R.2 29 m]
def c3 (R : SR) (m i : Nat) : List Int32 := ((List.range i).filter (fun v => decide (R.2 33 (31 * m + v) ≠ -1))).map (fun v => R.2 33 (31 * m + v))
def c4 (R : SR) (m i : Nat) : List Int32 := (List.range i).map (fun k => R.2 34 (20 * m + k))
def c5 (R : SR) (m : Nat) : Nat → List Int32
  | 0 => []
  | i + 1 => if R.2 36 i = nI m ∧ R.2 41 i = 0 then c5 R m i ++ [R.2 37 i, R.2 38 i] else c5 R m i
theorem c1_len (R : SR) (m : Nat) : (c1 R m).length ≤ 1 := by unfold c1; split <;> simp
theorem c2_len (R : SR) (m : Nat) : (c2 R m).length ≤ 1 := by unfold c2; split <;> simp
theorem c3_len (R : SR) (m i : Nat) : (c3 R m i).length ≤ i := by
  unfold c3
  rw [List.length_map]
  exact Nat.le_trans (List.length_filter_le _ _) (by simp)
theorem c4_len (R : SR) (m i : Nat) : (c4 R m i).length = i := by simp [c4]
theorem c5_len (R : SR) (m : Nat) : ∀ i, (c5 R m i).length ≤ 2 * i
  | 0 => Nat.le_refl _
  | i + 1 => by
    have := c5_len R m i
    unfold c5
    split
    · rw [List.length_append]; simp; omega
    · omega
def cnd (R : SR) (m uc : Nat) : List Int32 := c1 R m ++ c2 R m ++ c3 R m 31 ++ c4 R m uc ++ c5 R m (R.1 35)
def gaR (R : SR) (m uc : Nat) : SR := hF (ri R 46 0) (cnd R m uc)
set_option maxRecDepth 100000 in
set_option maxHeartbeats 4000000 in
theorem r_gather (l : Launch) (d : gh_D) (g : gh_H) {y : Nat → Nat} {R : SR} (hR : rR g y R) (m uc : Nat) (hm : m < 16) (hat : R.2 32 m ≠ 0 → ∃ e, e < 60 ∧ R.2 27 m = nI e) (huc : R.2 31 m = nI uc) (hu20 : uc ≤ 20) (hP : R.1 35 ≤ 60) : gh_C l d mR_gather (rr 1 0 0) [.ref (y 0), .int (nI m)] g (fun v g1 => v = none ∧ rQ g g1 y (gaR R m uc)) := by
  refine gh_of [some (.ref (y 0)), some (.int (nI m)), none] (by decide) rfl (Nat.le_of_ble_eq_true rfl) (by simp [Value.category]) (fun z C hQ => ?_)
  show gh_W l d z 0 [some (.ref (y 0)), some (.int (nI m)), none] [] g 0 0
  have h0 := rQ.rf hR
  have l1 := c1_len R m
  have l2 := c2_len R m
  have st : ∀ L : List Int32, (∀ a, a ≠ 46 → (hF (ri R 46 0) L).1 a = R.1 a) ∧ (∀ a, a ≠ 47 → (hF (ri R 46 0) L).2 a = R.2 a) ∧ (hF (ri R 46 0) L).1 46 ≤ L.length := fun L => by
    have h := hF_f (ri R 46 0) L
    refine ⟨fun a ha => (h.1 a ha).trans (by simp [ri, ha]), h.2.1, ?_⟩
    have e : (ri R 46 0).1 46 = 0 := by simp [ri]
    have := h.2.2
    omega
  have loop3 : ∀ (c i : Nat) (g1 : gh_H), i + c = R.1 35 → rQ g g1 y (hF (ri R 46 0) (c1 R m ++ c2 R m ++ c3 R m 31 ++ c4 R m uc ++ c5 R m i)) → gh_W l d z 128 [some (.ref (y 0)), some (.int (nI m)), some (.int (nI i))] [] g1 0 0 := by
    intro c
    induction c with
    | zero =>
      intro i g1 hi h1
      have hi : i = R.1 35 := by omega
      subst hi
      obtain ⟨T, eT⟩ : ∃ T, T = hF (ri R 46 0) (c1 R m ++ c2 R m ++ c3 R m 31 ++ c4 R m uc ++ c5 R m (R.1 35)) := ⟨_, rfl⟩
      rw [← eT] at h1
      have t35 : T.1 35 = R.1 35 := by rw [eT]; exact (st _).1 35 (by decide)
      refine gh_iload_n C dR_gather_128 rfl ?_
      refine gh_aload_n C dR_gather_129 rfl ?_
      refine rw_get C h1 fR_189 rfl dR_gather_130 ?_
      refine gh_icmp_ge C 184 dR_gather_133 (by decide) (fun c133 => ?_) (fun c133 => ?_)
      ·
        refine gh_vret C hQ rfl dR_gather_184 ?_
        exact ⟨rfl, by unfold gaR cnd; rw [← eT]; exact h1⟩
      · exact absurd (show nI (T.1 35) ≤ nI (R.1 35) from nI_le (by omega) (by omega)) c133
    | succ c ih =>
      intro i g1 hi h1
      have hlt : i < R.1 35 := by omega
      have l3 := c3_len R m 31
      have l4 := c4_len R m uc
      have l5 := c5_len R m i
      obtain ⟨L, eL⟩ : ∃ L, L = c1 R m ++ c2 R m ++ c3 R m 31 ++ c4 R m uc ++ c5 R m i := ⟨_, rfl⟩
      rw [← eL] at h1
      have sT := st L
      have lL : L.length < 254 := by rw [eL]; simp only [List.length_append]; omega
      obtain ⟨T, eT⟩ : ∃ T, T = hF (ri R 46 0) L := ⟨_, rfl⟩
      rw [← eT] at h1 sT
      have t35 : T.1 35 = R.1 35 := sT.1 35 (by decide)
      have t36 : T.2 36 = R.2 36 := sT.2.1 36 (by decide)
      have t41 : T.2 41 = R.2 41 := sT.2.1 41 (by decide)
      have inc : ∀ (g2 : gh_H), rQ g g2 y (hF (ri R 46 0) (c1 R m ++ c2 R m ++ c3 R m 31 ++ c4 R m uc ++ c5 R m (i + 1))) → gh_W l d z 178 [some (.ref (y 0)), some (.int (nI m)), some (.int (nI i))] [] g2 0 0 := by
        intro g2 h2
        refine gh_iinc C (nI (i + 1)) [some (.ref (y 0)), some (.int (nI m)), some (.int (nI (i + 1)))] dR_gather_178 rfl (gh_inc i) rfl ?_
        refine gh_goto C 128 dR_gather_181 (by decide) ?_
        exact ih (i + 1) g2 (by omega) h2
      refine gh_iload_n C dR_gather_128 rfl ?_
      refine gh_aload_n C dR_gather_129 rfl ?_
      refine rw_get C h1 fR_189 rfl dR_gather_130 ?_
      refine gh_icmp_ge C 184 dR_gather_133 (by decide) (fun c133 => ?_) (fun c133 => ?_)
      · exact absurd c133 (show ¬ nI (T.1 35) ≤ nI i from nI_ge (by omega) (by omega))
      ·
        refine gh_aload_n C dR_gather_136 rfl ?_
        refine rw_get C h1 fR_104 rfl dR_gather_137 ?_
        refine gh_iload_n C dR_gather_140 rfl ?_
        refine rw_ild C h1 36 60 ⟨rfl, rfl, rfl, by decide⟩ (i) rfl (by omega) dR_gather_141 ?_
        refine gh_iload_n C dR_gather_142 rfl ?_
        refine gh_icmp_ne C 178 dR_gather_143 (by decide) (fun c143 => ?_) (fun c143 => ?_)
        · exact inc _ (by rw [show c5 R m (i + 1) = c5 R m i from if_neg (fun h9 => c143 (by rw [t36]; exact h9.1)), ← eL, ← eT]; exact h1)
        ·
          refine gh_aload_n C dR_gather_146 rfl ?_
          refine rw_get C h1 fR_119 rfl dR_gather_147 ?_
          refine gh_iload_n C dR_gather_150 rfl ?_
          refine rw_zld C h1 41 60 ⟨rfl, rfl, rfl, by decide⟩ (i) rfl (by omega) dR_gather_151 ?_
          refine gh_if_eq C 158 dR_gather_152 (by decide) (fun c152 => ?_) (fun c152 => ?_)
          ·
            refine gh_aload_n C dR_gather_158 rfl ?_
            refine gh_aload_n C dR_gather_159 rfl ?_
            refine rw_get C h1 fR_107 rfl dR_gather_160 ?_
            refine gh_iload_n C dR_gather_163 rfl ?_
            refine rw_ild C h1 37 60 ⟨rfl, rfl, rfl, by decide⟩ (i) rfl (by omega) dR_gather_164 ?_
            refine gh_ti (R.2 37 i) (by rw [sT.2.1 37 (by decide)]) ?_
            refine gh_callV C [.int (R.2 37 i)] (r_hold l d _ h1.1 (R.2 37 i) (by omega)) lR_186 wR_hold vR_hold h1.1.1 rfl rfl rfl (Nat.le_of_ble_eq_true rfl) ⟨Nat.le_of_ble_eq_true rfl, Nat.le_of_ble_eq_true rfl⟩ (Nat.le_of_ble_eq_true rfl) (Nat.le_of_ble_eq_true rfl) dR_gather_165 (fun v101 g101 k101 => ?_)
            obtain ⟨rfl, h101⟩ := k101
            replace h101 := h1.tr h101
            have sd := hdR_f T (R.2 37 i)
            obtain ⟨T2, eT2⟩ : ∃ T2, T2 = hdR T (R.2 37 i) := ⟨_, rfl⟩
            rw [← eT2] at h101 sd
            refine gh_aload_n C dR_gather_168 rfl ?_
            refine gh_aload_n C dR_gather_169 rfl ?_
            refine rw_get C h101 fR_110 rfl dR_gather_170 ?_
            refine gh_iload_n C dR_gather_173 rfl ?_
            refine rw_ild C h101 38 60 ⟨rfl, rfl, rfl, by decide⟩ (i) rfl (by omega) dR_gather_174 ?_
            refine gh_ti (R.2 38 i) (by rw [sd.2.1 38 (by decide), sT.2.1 38 (by decide)]) ?_
            refine gh_callV C [.int (R.2 38 i)] (r_hold l d _ h101.1 (R.2 38 i) (by omega)) lR_186 wR_hold vR_hold h101.1.1 rfl rfl rfl (Nat.le_of_ble_eq_true rfl) ⟨Nat.le_of_ble_eq_true rfl, Nat.le_of_ble_eq_true rfl⟩ (Nat.le_of_ble_eq_true rfl) (Nat.le_of_ble_eq_true rfl) dR_gather_175 (fun v102 g102 k102 => ?_)
            obtain ⟨rfl, h102⟩ := k102
            replace h102 := h101.tr h102
            exact inc _ (by rw [show c5 R m (i + 1) = c5 R m i ++ [R.2 37 i, R.2 38 i] from if_pos ⟨by rw [← t36]; exact c143, by rw [← t41]; exact c152⟩, ← List.append_assoc, ← eL, show L ++ [R.2 37 i, R.2 38 i] = L ++ [R.2 37 i] ++ [R.2 38 i] by simp, hF_s, hF_s, ← eT, ← eT2]; exact h102)
          · refine gh_goto C 178 dR_gather_155 (by decide) ?_
            exact inc _ (by rw [show c5 R m (i + 1) = c5 R m i from if_neg (fun h9 => c152 (by rw [t41]; exact h9.2)), ← eL, ← eT]; exact h1)
  have loop2 : ∀ (c i : Nat) (g1 : gh_H), i + c = uc → rQ g g1 y (hF (ri R 46 0) (c1 R m ++ c2 R m ++ c3 R m 31 ++ c4 R m i)) → gh_W l d z 95 [some (.ref (y 0)), some (.int (nI m)), some (.int (nI i))] [] g1 0 0 := by
    intro c
    induction c with
    | zero =>
      intro i g1 hi h1
      have hi : i = uc := by omega
      have sT := st (c1 R m ++ c2 R m ++ c3 R m 31 ++ c4 R m i)
      obtain ⟨T, eT⟩ : ∃ T, T = hF (ri R 46 0) (c1 R m ++ c2 R m ++ c3 R m 31 ++ c4 R m i) := ⟨_, rfl⟩
      rw [← eT] at h1 sT
      refine gh_iload_n C dR_gather_95 rfl ?_
      refine gh_aload_n C dR_gather_96 rfl ?_
      refine rw_get C h1 fR_92 rfl dR_gather_97 ?_
      refine gh_iload_n C dR_gather_100 rfl ?_
      refine rw_ild C h1 31 16 ⟨rfl, rfl, rfl, by decide⟩ (m) rfl (by omega) dR_gather_101 ?_
      refine gh_ti (nI uc) (by rw [sT.2.1 31 (by decide)]; exact huc) ?_
      refine gh_icmp_ge C 126 dR_gather_102 (by decide) (fun c102 => ?_) (fun c102 => ?_)
      ·
        refine gh_iconst C 0 dR_gather_126 (by decide) ?_
        refine gh_istore_n C [some (.ref (y 0)), some (.int (nI m)), some (.int 0)] dR_gather_127 rfl (Nat.le_of_ble_eq_true rfl) ?_
        exact loop3 (R.1 35) 0 _ (by omega) (by rw [show c5 R m 0 = [] from rfl, List.append_nil, ← hi, ← eT]; exact h1)
      · exact absurd (nI_le (by omega) (by omega)) c102
    | succ c ih =>
      intro i g1 hi h1
      have l3 := c3_len R m 31
      have l4 := c4_len R m i
      obtain ⟨L, eL⟩ : ∃ L, L = c1 R m ++ c2 R m ++ c3 R m 31 ++ c4 R m i := ⟨_, rfl⟩
      rw [← eL] at h1
      have sT := st L
      have lL : L.length < 254 := by rw [eL]; simp only [List.length_append]; omega
      obtain ⟨T, eT⟩ : ∃ T, T = hF (ri R 46 0) L := ⟨_, rfl⟩
      rw [← eT] at h1 sT
      refine gh_iload_n C dR_gather_95 rfl ?_
      refine gh_aload_n C dR_gather_96 rfl ?_
      refine rw_get C h1 fR_92 rfl dR_gather_97 ?_
      refine gh_iload_n C dR_gather_100 rfl ?_
      refine rw_ild C h1 31 16 ⟨rfl, rfl, rfl, by decide⟩ (m) rfl (by omega) dR_gather_101 ?_
      refine gh_ti (nI uc) (by rw [sT.2.1 31 (by decide)]; exact huc) ?_
      refine gh_icmp_ge C 126 dR_gather_102 (by decide) (fun c102 => ?_) (fun c102 => ?_)
      · exact absurd c102 (nI_ge (by omega) (by omega))
      ·
        refine gh_aload_n C dR_gather_105 rfl ?_
        refine gh_aload_n C dR_gather_106 rfl ?_
        refine rw_get C h1 fR_101 rfl dR_gather_107 ?_
        refine gh_bipush C 20 dR_gather_110 (by decide) ?_
        refine gh_iload_n C dR_gather_112 rfl ?_
        refine gh_imul C dR_gather_113 ?_
        refine gh_ti (nI (20 * m)) (pk_mul 20 m) ?_
        refine gh_iload_n C dR_gather_114 rfl ?_
        refine gh_iadd C dR_gather_115 ?_
        refine gh_ti (nI (20 * m + i)) (nI_add (20 * m) i) ?_
        refine rw_ild C h1 34 320 ⟨rfl, rfl, rfl, by decide⟩ (20 * m + i) rfl (by omega) dR_gather_116 ?_
        refine gh_ti (R.2 34 (20 * m + i)) (by rw [sT.2.1 34 (by decide)]) ?_
        refine gh_callV C [.int (R.2 34 (20 * m + i))] (r_hold l d _ h1.1 (R.2 34 (20 * m + i)) (by omega)) lR_186 wR_hold vR_hold h1.1.1 rfl rfl rfl (Nat.le_of_ble_eq_true rfl) ⟨Nat.le_of_ble_eq_true rfl, Nat.le_of_ble_eq_true rfl⟩ (Nat.le_of_ble_eq_true rfl) (Nat.le_of_ble_eq_true rfl) dR_gather_117 (fun v101 g101 k101 => ?_)
        obtain ⟨rfl, h101⟩ := k101
        replace h101 := h1.tr h101
        refine gh_iinc C (nI (i + 1)) [some (.ref (y 0)), some (.int (nI m)), some (.int (nI (i + 1)))] dR_gather_120 rfl (gh_inc i) rfl ?_
        refine gh_goto C 95 dR_gather_123 (by decide) ?_
        refine ih (i + 1) _ (by omega) ?_
        rw [show c4 R m (i + 1) = c4 R m i ++ [R.2 34 (20 * m + i)] by simp [c4, List.range_succ], ← List.append_assoc, ← eL, hF_s, ← eT]
        exact h101
  have loop1 : ∀ (c i : Nat) (g1 : gh_H), i + c = 31 → rQ g g1 y (hF (ri R 46 0) (c1 R m ++ c2 R m ++ c3 R m i)) → gh_W l d z 51 [some (.ref (y 0)), some (.int (nI m)), some (.int (nI i))] [] g1 0 0 := by
    intro c
    induction c with
    | zero =>
      intro i g1 hi h1
      have hi : i = 31 := by omega
      subst hi
      refine gh_iload_n C dR_gather_51 rfl ?_
      refine gh_bipush C 31 dR_gather_52 (by decide) ?_
      refine gh_icmp_ge C 93 dR_gather_54 (by decide) (fun c54 => ?_) (fun c54 => ?_)
      ·
        refine gh_iconst C 0 dR_gather_93 (by decide) ?_
        refine gh_istore_n C [some (.ref (y 0)), some (.int (nI m)), some (.int 0)] dR_gather_94 rfl (Nat.le_of_ble_eq_true rfl) ?_
        exact loop2 uc 0 _ (by omega) (by rw [show c4 R m 0 = [] from rfl, List.append_nil]; exact h1)
      · exact absurd (show (31 : Int32) ≤ nI 31 from nI_le (Nat.le_refl 31) (by decide)) c54
    | succ c ih =>
      intro i g1 hi h1
      have l3 := c3_len R m i
      obtain ⟨L, eL⟩ : ∃ L, L = c1 R m ++ c2 R m ++ c3 R m i := ⟨_, rfl⟩
      rw [← eL] at h1
      have sT := st L
      have lL : L.length < 254 := by rw [eL]; simp only [List.length_append]; omega
      obtain ⟨T, eT⟩ : ∃ T, T = hF (ri R 46 0) L := ⟨_, rfl⟩
      rw [← eT] at h1 sT
      have inc : ∀ (g2 : gh_H), rQ g g2 y (hF (ri R 46 0) (c1 R m ++ c2 R m ++ c3 R m (i + 1))) → gh_W l d z 87 [some (.ref (y 0)), some (.int (nI m)), some (.int (nI i))] [] g2 0 0 := by
        intro g2 h2
        refine gh_iinc C (nI (i + 1)) [some (.ref (y 0)), some (.int (nI m)), some (.int (nI (i + 1)))] dR_gather_87 rfl (gh_inc i) rfl ?_
        refine gh_goto C 51 dR_gather_90 (by decide) ?_
        exact ih (i + 1) g2 (by omega) h2
      refine gh_iload_n C dR_gather_51 rfl ?_
      refine gh_bipush C 31 dR_gather_52 (by decide) ?_
      refine gh_icmp_ge C 93 dR_gather_54 (by decide) (fun c54 => ?_) (fun c54 => ?_)
      · exact absurd c54 (show ¬ nI 31 ≤ nI i from nI_ge (by omega) (by decide))
      ·
        refine gh_aload_n C dR_gather_57 rfl ?_
        refine rw_get C h1 fR_98 rfl dR_gather_58 ?_
        refine gh_bipush C 31 dR_gather_61 (by decide) ?_
        refine gh_iload_n C dR_gather_63 rfl ?_
        refine gh_imul C dR_gather_64 ?_
        refine gh_ti (nI (31 * m)) (pk_mul 31 m) ?_
        refine gh_iload_n C dR_gather_65 rfl ?_
        refine gh_iadd C dR_gather_66 ?_
        refine gh_ti (nI (31 * m + i)) (nI_add (31 * m) i) ?_
        refine rw_ild C h1 33 496 ⟨rfl, rfl, rfl, by decide⟩ (31 * m + i) rfl (by omega) dR_gather_67 ?_
        refine gh_ti (R.2 33 (31 * m + i)) (by rw [sT.2.1 33 (by decide)]) ?_
        refine gh_iconst C (-1) dR_gather_68 (by decide) ?_
        refine gh_icmp_eq C 87 dR_gather_69 (by decide) (fun c69 => ?_) (fun c69 => ?_)
        · exact inc _ (by rw [show c3 R m (i + 1) = c3 R m i by simp [c3, List.range_succ, c69], ← eL, ← eT]; exact h1)
        ·
          refine gh_aload_n C dR_gather_72 rfl ?_
          refine gh_aload_n C dR_gather_73 rfl ?_
          refine rw_get C h1 fR_98 rfl dR_gather_74 ?_
          refine gh_bipush C 31 dR_gather_77 (by decide) ?_
          refine gh_iload_n C dR_gather_79 rfl ?_
          refine gh_imul C dR_gather_80 ?_
          refine gh_ti (nI (31 * m)) (pk_mul 31 m) ?_
          refine gh_iload_n C dR_gather_81 rfl ?_
          refine gh_iadd C dR_gather_82 ?_
          refine gh_ti (nI (31 * m + i)) (nI_add (31 * m) i) ?_
          refine rw_ild C h1 33 496 ⟨rfl, rfl, rfl, by decide⟩ (31 * m + i) rfl (by omega) dR_gather_83 ?_
          refine gh_ti (R.2 33 (31 * m + i)) (by rw [sT.2.1 33 (by decide)]) ?_
          refine gh_callV C [.int (R.2 33 (31 * m + i))] (r_hold l d _ h1.1 (R.2 33 (31 * m + i)) (by omega)) lR_186 wR_hold vR_hold h1.1.1 rfl rfl rfl (Nat.le_of_ble_eq_true rfl) ⟨Nat.le_of_ble_eq_true rfl, Nat.le_of_ble_eq_true rfl⟩ (Nat.le_of_ble_eq_true rfl) (Nat.le_of_ble_eq_true rfl) dR_gather_84 (fun v101 g101 k101 => ?_)
          obtain ⟨rfl, h101⟩ := k101
          replace h101 := h1.tr h101
          exact inc _ (by rw [show c3 R m (i + 1) = c3 R m i ++ [R.2 33 (31 * m + i)] by simp [c3, List.range_succ, c69], ← List.append_assoc, ← eL, hF_s, ← eT]; exact h101)
  have part2 : ∀ (g1 : gh_H), rQ g g1 y (hF (ri R 46 0) (c1 R m)) → gh_W l d z 29 [some (.ref (y 0)), some (.int (nI m)), none] [] g1 0 0 := by
    intro g1 h1
    have sT := st (c1 R m)
    obtain ⟨T, eT⟩ : ∃ T, T = hF (ri R 46 0) (c1 R m) := ⟨_, rfl⟩
    rw [← eT] at h1 sT
    refine gh_aload_n C dR_gather_29 rfl ?_
    refine rw_get C h1 fR_86 rfl dR_gather_30 ?_
    refine gh_iload_n C dR_gather_33 rfl ?_
    refine rw_ild C h1 29 16 ⟨rfl, rfl, rfl, by decide⟩ (m) rfl (by omega) dR_gather_34 ?_
    refine gh_ti (R.2 29 m) (by rw [sT.2.1 29 (by decide)]) ?_
    refine gh_iconst C (-1) dR_gather_35 (by decide) ?_
    refine gh_icmp_eq C 49 dR_gather_36 (by decide) (fun c36 => ?_) (fun c36 => ?_)
    ·
      have e2 : c2 R m = [] := if_pos c36
      have hz : rQ g g1 y (hF (ri R 46 0) (c1 R m ++ c2 R m ++ c3 R m 0)) := by
        rw [e2, show c3 R m 0 = [] from rfl, List.append_nil, List.append_nil, ← eT]
        exact h1
      refine gh_iconst C 0 dR_gather_49 (by decide) ?_
      refine gh_istore_n C [some (.ref (y 0)), some (.int (nI m)), some (.int 0)] dR_gather_50 rfl (Nat.le_of_ble_eq_true rfl) ?_
      exact loop1 31 0 _ (by omega) hz
    ·
      have e2 : c2 R m = [R.2 29 m] := if_neg c36
      refine gh_aload_n C dR_gather_39 rfl ?_
      refine gh_aload_n C dR_gather_40 rfl ?_
      refine rw_get C h1 fR_86 rfl dR_gather_41 ?_
      refine gh_iload_n C dR_gather_44 rfl ?_
      refine rw_ild C h1 29 16 ⟨rfl, rfl, rfl, by decide⟩ (m) rfl (by omega) dR_gather_45 ?_
      refine gh_ti (R.2 29 m) (by rw [sT.2.1 29 (by decide)]) ?_
      refine gh_callV C [.int (R.2 29 m)] (r_hold l d _ h1.1 (R.2 29 m) (by omega)) lR_186 wR_hold vR_hold h1.1.1 rfl rfl rfl (Nat.le_of_ble_eq_true rfl) ⟨Nat.le_of_ble_eq_true rfl, Nat.le_of_ble_eq_true rfl⟩ (Nat.le_of_ble_eq_true rfl) (Nat.le_of_ble_eq_true rfl) dR_gather_46 (fun v101 g101 k101 => ?_)
      obtain ⟨rfl, h101⟩ := k101
      replace h101 := h1.tr h101
      have hz : rQ g g101 y (hF (ri R 46 0) (c1 R m ++ c2 R m ++ c3 R m 0)) := by
        rw [e2, show c3 R m 0 = [] from rfl, List.append_nil, hF_s, ← eT]
        exact h101
      refine gh_iconst C 0 dR_gather_49 (by decide) ?_
      refine gh_istore_n C [some (.ref (y 0)), some (.int (nI m)), some (.int 0)] dR_gather_50 rfl (Nat.le_of_ble_eq_true rfl) ?_
      exact loop1 31 0 _ (by omega) hz
  refine gh_aload_n C dR_gather_0 rfl ?_
  refine gh_iconst C 0 dR_gather_1 (by decide) ?_
  refine rw_put C h0 (0) rfl pR_183 (by decide) rfl (by decide) (fun _ => rfl) (fun _ => rfl) dR_gather_2 (fun g101 h101 => ?_)
  refine gh_aload_n C dR_gather_5 rfl ?_
  refine rw_get C h101 fR_95 rfl dR_gather_6 ?_
  refine gh_iload_n C dR_gather_9 rfl ?_
  refine rw_zld C h101 32 16 ⟨rfl, rfl, rfl, by decide⟩ (m) rfl (by omega) dR_gather_10 ?_
  refine gh_ti (R.2 32 m) rfl ?_
  refine gh_if_eq C 29 dR_gather_11 (by decide) (fun c11 => ?_) (fun c11 => ?_)
  ·
    have e1 : c1 R m = [] := if_pos c11
    exact part2 _ (by rw [e1]; exact h101)
  ·
    have e1 : c1 R m = [R.2 14 (R.2 27 m).toNatClampNeg] := if_neg c11
    obtain ⟨e, he, hae⟩ := hat c11
    have hcl : (R.2 27 m).toNatClampNeg = e := by rw [hae]; exact nI_clamp (by omega)
    refine gh_aload_n C dR_gather_14 rfl ?_
    refine gh_aload_n C dR_gather_15 rfl ?_
    refine rw_get C h101 fR_41 rfl dR_gather_16 ?_
    refine gh_aload_n C dR_gather_19 rfl ?_
    refine rw_get C h101 fR_80 rfl dR_gather_20 ?_
    refine gh_iload_n C dR_gather_23 rfl ?_
    refine rw_ild C h101 27 16 ⟨rfl, rfl, rfl, by decide⟩ (m) rfl (by omega) dR_gather_24 ?_
    refine gh_ti (nI e) hae ?_
    refine rw_ild C h101 14 60 ⟨rfl, rfl, rfl, by decide⟩ (e) rfl (by omega) dR_gather_25 ?_
    refine gh_ti (R.2 14 e) rfl ?_
    refine gh_callV C [.int (R.2 14 e)] (r_hold l d _ h101.1 (R.2 14 e) (by show 0 < 256; decide)) lR_186 wR_hold vR_hold h101.1.1 rfl rfl rfl (Nat.le_of_ble_eq_true rfl) ⟨Nat.le_of_ble_eq_true rfl, Nat.le_of_ble_eq_true rfl⟩ (Nat.le_of_ble_eq_true rfl) (Nat.le_of_ble_eq_true rfl) dR_gather_26 (fun v102 g102 k102 => ?_)
    obtain ⟨rfl, h102⟩ := k102
    replace h102 := h101.tr h102
    have hz : rQ g g102 y (hF (ri R 46 0) (c1 R m)) := by
      rw [e1, hcl]
      exact h102
    exact part2 _ hz
