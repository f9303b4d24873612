/-! the reference's small methods -/
def mkR (R : SR) (k a b : Int32) : SR := ri (ra (ra (ra R 2 (upd (R.2 2) (R.1 1) k)) 3 (upd (R.2 3) (R.1 1) a)) 4 (upd (R.2 4) (R.1 1) b)) 1 (R.1 1 + 1)
def enR (R : SR) (a b c : Int32) : SR := ra (ri (ra (ra (ra (ra R 8 (upd (R.2 8) (R.1 7) a)) 9 (upd (R.2 9) (R.1 7) b)) 10 (upd (R.2 10) (R.1 7) (nI (R.1 12)))) 11 (upd (R.2 11) (R.1 7) c)) 7 (R.1 7 + 1)) 20 (upd (R.2 20) (R.1 12) (R.2 20 (R.1 12) + 1))
def blR (R : SR) (e v : Nat) : SR := ra (ra R 22 (upd (R.2 22) (31 * e + v) (-1))) 23 (upd (R.2 23) (31 * e + v) 0)
def stR (R : SR) (e v : Nat) (k : Int32) : SR := ra (ra (ra R 22 (upd (R.2 22) (31 * e + v) k)) 23 (upd (R.2 23) (31 * e + v) 0)) 24 (upd (R.2 24) (31 * e + v) (nI e))
def bpR (R : SR) (e a : Nat) : Nat → SR
  | 0 => R
  | h + 1 => blR (bpR R e a h) e (pn a (h + 1))
theorem bpR_1 (R : SR) (e a h : Nat) : (bpR R e a h).1 = R.1 := by
  induction h with
  | zero => rfl
  | succ h ih => exact ih
theorem bpR_2 (R : SR) (e a h : Nat) {f : Nat} (h1 : f ≠ 22) (h2 : f ≠ 23) : (bpR R e a h).2 f = R.2 f := by
  induction h with
  | zero => rfl
  | succ h ih => simp only [bpR, blR, ra, if_neg h1, if_neg h2]; exact ih
set_option maxRecDepth 100000 in
set_option maxHeartbeats 4000000 in
theorem r_thrown (l : Launch) (d : gh_D) (g : gh_H) {y : Nat → Nat} {R : SR} (hR : rR g y R)  : gh_C l d mR_thrown (rr 0 0 0) [.ref (y 0)] g (fun v g1 => v = some (.int (nI (R.1 0))) ∧ g1 = g) := by
  refine gh_of [some (.ref (y 0))] (by decide) rfl (Nat.le_of_ble_eq_true rfl) (by simp [Value.category]) (fun z C hQ => ?_)
  show gh_W l d z 0 [some (.ref (y 0))] [] g 0 0
  have h0 := rQ.rf hR
  refine gh_aload_n C dR_thrown_0 rfl ?_
  refine rw_get C h0 fR_155 rfl dR_thrown_1 ?_
  refine gh_iret C hQ rfl dR_thrown_4 ?_
  exact ⟨rfl, rfl⟩
set_option maxRecDepth 100000 in
set_option maxHeartbeats 4000000 in
theorem r_in (l : Launch) (d : gh_D) (g : gh_H) (x u : Int32) : gh_C l d mR_in (rr 0 0 0) [.int x, .int u] g (fun v g1 => v = some (.int (if 0 ≤ x ∧ x < u then 1 else 0)) ∧ g1 = g) := by
  refine gh_of [some (.int x), some (.int u)] (by decide) rfl (Nat.le_of_ble_eq_true rfl) (by simp [Value.category]) (fun z C hQ => ?_)
  show gh_W l d z 0 [some (.int x), some (.int u)] [] g 0 0
  refine gh_iload_n C dR_in_0 rfl ?_
  refine gh_if_lt C 13 dR_in_1 (by decide) (fun c1 => ?_) (fun c1 => ?_)
  ·
    have hz : ¬ (0 ≤ x ∧ x < u) := fun h => absurd h.1 (Int32.not_le.mpr c1)
    refine gh_iconst C 0 dR_in_13 (by decide) ?_
    refine gh_zret C hQ rfl (by simp) dR_in_14 ?_
    first | exact ⟨by rw [if_pos hz], rfl⟩ | exact ⟨by rw [if_neg hz], rfl⟩
  ·
    refine gh_iload_n C dR_in_4 rfl ?_
    refine gh_iload_n C dR_in_5 rfl ?_
    refine gh_icmp_ge C 13 dR_in_6 (by decide) (fun c6 => ?_) (fun c6 => ?_)
    ·
      have hz : ¬ (0 ≤ x ∧ x < u) := fun h => absurd h.2 (Int32.not_lt.mpr c6)
      refine gh_iconst C 0 dR_in_13 (by decide) ?_
      refine gh_zret C hQ rfl (by simp) dR_in_14 ?_
      first | exact ⟨by rw [if_pos hz], rfl⟩ | exact ⟨by rw [if_neg hz], rfl⟩
    ·
      have hz : 0 ≤ x ∧ x < u := ⟨Int32.not_lt.mp c1, Int32.not_le.mp c6⟩
      refine gh_iconst C 1 dR_in_9 (by decide) ?_
      refine gh_goto C 14 dR_in_10 (by decide) ?_
      refine gh_zret C hQ rfl (by simp) dR_in_14 ?_
      first | exact ⟨by rw [if_pos hz], rfl⟩ | exact ⟨by rw [if_neg hz], rfl⟩
set_option maxRecDepth 100000 in
set_option maxHeartbeats 4000000 in
theorem r_make (l : Launch) (d : gh_D) (g : gh_H) {y : Nat → Nat} {R : SR} (hR : rR g y R) (k a b : Int32) (hN : R.1 1 < 2600) : gh_C l d mR_make (rr 0 0 0) [.ref (y 0), .int k, .int a, .int b] g (fun v g1 => v = some (.int (nI (R.1 1))) ∧ rQ g g1 y (mkR R k a b)) := by
  refine gh_of [some (.ref (y 0)), some (.int k), some (.int a), some (.int b)] (by decide) rfl (Nat.le_of_ble_eq_true rfl) (by simp [Value.category]) (fun z C hQ => ?_)
  show gh_W l d z 0 [some (.ref (y 0)), some (.int k), some (.int a), some (.int b)] [] g 0 0
  have h0 := rQ.rf hR
  refine gh_aload_n C dR_make_0 rfl ?_
  refine rw_get C h0 fR_7 rfl dR_make_1 ?_
  refine gh_aload_n C dR_make_4 rfl ?_
  refine rw_get C h0 fR_158 rfl dR_make_5 ?_
  refine gh_iload_n C dR_make_8 rfl ?_
  refine rw_ist C h0 2 2600 ⟨rfl, rfl, rfl, by decide⟩ (R.1 1) rfl (by omega) dR_make_9 (fun g101 h101 => ?_)
  have h101 : rQ g g101 y (ra R 2 (upd (R.2 2) (R.1 1) k)) := h101
  refine gh_aload_n C dR_make_10 rfl ?_
  refine rw_get C h101 fR_13 rfl dR_make_11 ?_
  refine gh_aload_n C dR_make_14 rfl ?_
  refine rw_get C h101 fR_158 rfl dR_make_15 ?_
  refine gh_ti (nI (R.1 1)) rfl ?_
  refine gh_iload_n C dR_make_18 rfl ?_
  refine rw_ist C h101 3 2600 ⟨rfl, rfl, rfl, by decide⟩ (R.1 1) rfl (by omega) dR_make_19 (fun g102 h102 => ?_)
  have h102 : rQ g g102 y (ra (ra R 2 (upd (R.2 2) (R.1 1) k)) 3 (upd (R.2 3) (R.1 1) a)) := h102
  refine gh_aload_n C dR_make_20 rfl ?_
  refine rw_get C h102 fR_16 rfl dR_make_21 ?_
  refine gh_aload_n C dR_make_24 rfl ?_
  refine rw_get C h102 fR_158 rfl dR_make_25 ?_
  refine gh_ti (nI (R.1 1)) rfl ?_
  refine gh_iload_n C dR_make_28 rfl ?_
  refine rw_ist C h102 4 2600 ⟨rfl, rfl, rfl, by decide⟩ (R.1 1) rfl (by omega) dR_make_29 (fun g103 h103 => ?_)
  have h103 : rQ g g103 y (ra (ra (ra R 2 (upd (R.2 2) (R.1 1) k)) 3 (upd (R.2 3) (R.1 1) a)) 4 (upd (R.2 4) (R.1 1) b)) := h103
  refine gh_aload_n C dR_make_30 rfl ?_
  refine gh_dup C dR_make_31 rfl ?_
  refine rw_get C h103 fR_158 rfl dR_make_32 ?_
  refine gh_ti (nI (R.1 1)) rfl ?_
  refine gh_iconst C 1 dR_make_35 (by decide) ?_
  refine gh_iadd C dR_make_36 ?_
  refine gh_ti (nI (R.1 1 + 1)) (nI_add (R.1 1) 1) ?_
  refine rw_put C h103 (R.1 1 + 1) rfl pR_158 (by decide) rfl (by decide) (fun _ => rfl) (fun _ => rfl) dR_make_37 (fun g104 h104 => ?_)
  refine gh_aload_n C dR_make_40 rfl ?_
  refine rw_get C h104 fR_158 rfl dR_make_41 ?_
  refine gh_ti (nI (R.1 1 + 1)) rfl ?_
  refine gh_iconst C 1 dR_make_44 (by decide) ?_
  refine gh_isub C dR_make_45 ?_
  refine gh_ti (nI (R.1 1)) (nI_pred _) ?_
  refine gh_iret C hQ rfl dR_make_46 ?_
  exact ⟨rfl, h104⟩
set_option maxRecDepth 100000 in
set_option maxHeartbeats 4000000 in
theorem r_of (l : Launch) (d : gh_D) (g : gh_H) {y : Nat → Nat} {R : SR} (hR : rR g y R) (k a b : Int32) (hN : R.1 1 < 2600) (hno : ∀ i, i < R.1 1 → ¬ (R.2 2 i = k ∧ R.2 3 i = a ∧ R.2 4 i = b)) : gh_C l d mR_of (rr 1 0 0) [.ref (y 0), .int k, .int a, .int b] g (fun v g1 => v = some (.int (nI (R.1 1))) ∧ rQ g g1 y (mkR R k a b)) := by
  refine gh_of [some (.ref (y 0)), some (.int k), some (.int a), some (.int b), none] (by decide) rfl (Nat.le_of_ble_eq_true rfl) (by simp [Value.category]) (fun z C hQ => ?_)
  show gh_W l d z 0 [some (.ref (y 0)), some (.int k), some (.int a), some (.int b), none] [] g 0 0
  have h0 := rQ.rf hR
  have loop : ∀ (c i : Nat), i + c = R.1 1 → gh_W l d z 3 [some (.ref (y 0)), some (.int k), some (.int a), some (.int b), some (.int (nI i))] [] g 0 0 := by
    intro c
    induction c with
    | zero =>
      intro i hi
      have hi : i = R.1 1 := by omega
      subst hi
      refine gh_iload C dR_of_3 rfl ?_
      refine gh_aload_n C dR_of_5 rfl ?_
      refine rw_get C h0 fR_158 rfl dR_of_6 ?_
      refine gh_icmp_ge C 54 dR_of_9 (by decide) (fun c9 => ?_) (fun c9 => ?_)
      ·
        refine gh_aload_n C dR_of_54 rfl ?_
        refine gh_iload_n C dR_of_55 rfl ?_
        refine gh_iload_n C dR_of_56 rfl ?_
        refine gh_iload_n C dR_of_57 rfl ?_
        refine gh_callV C [.int k, .int a, .int b] (r_make l d _ h0.1 k a b hN) lR_143 wR_make vR_make h0.1.1 rfl rfl rfl (Nat.le_of_ble_eq_true rfl) ⟨Nat.le_of_ble_eq_true rfl, Nat.le_of_ble_eq_true rfl⟩ (Nat.le_of_ble_eq_true rfl) (Nat.le_of_ble_eq_true rfl) dR_of_58 (fun v101 g101 k101 => ?_)
        obtain ⟨rfl, h101⟩ := k101
        replace h101 := h0.tr h101
        refine gh_iret C hQ rfl dR_of_61 ?_
        exact ⟨rfl, h101⟩
      · exact absurd (nI_le (Nat.le_refl (R.1 1)) (by omega)) c9
    | succ c ih =>
      intro i hi
      have hlt : i < R.1 1 := by omega
      have inc : gh_W l d z 48 [some (.ref (y 0)), some (.int k), some (.int a), some (.int b), some (.int (nI i))] [] g 0 0 := by
        refine gh_iinc C (nI (i + 1)) [some (.ref (y 0)), some (.int k), some (.int a), some (.int b), some (.int (nI (i + 1)))] dR_of_48 rfl (gh_inc i) rfl ?_
        refine gh_goto C 3 dR_of_51 (by decide) ?_
        exact ih (i + 1) (by omega)
      refine gh_iload C dR_of_3 rfl ?_
      refine gh_aload_n C dR_of_5 rfl ?_
      refine rw_get C h0 fR_158 rfl dR_of_6 ?_
      refine gh_icmp_ge C 54 dR_of_9 (by decide) (fun c9 => ?_) (fun c9 => ?_)
      · exact absurd c9 (nI_ge hlt (by omega))
      ·
        refine gh_aload_n C dR_of_12 rfl ?_
        refine rw_get C h0 fR_7 rfl dR_of_13 ?_
        refine gh_iload C dR_of_16 rfl ?_
        refine rw_ild C h0 2 2600 ⟨rfl, rfl, rfl, by decide⟩ (i) rfl (by omega) dR_of_18 ?_
        refine gh_iload_n C dR_of_19 rfl ?_
        refine gh_icmp_ne C 48 dR_of_20 (by decide) (fun c20 => ?_) (fun c20 => ?_)
        · exact inc
        ·
          refine gh_aload_n C dR_of_23 rfl ?_
          refine rw_get C h0 fR_13 rfl dR_of_24 ?_
          refine gh_iload C dR_of_27 rfl ?_
          refine rw_ild C h0 3 2600 ⟨rfl, rfl, rfl, by decide⟩ (i) rfl (by omega) dR_of_29 ?_
          refine gh_iload_n C dR_of_30 rfl ?_
          refine gh_icmp_ne C 48 dR_of_31 (by decide) (fun c31 => ?_) (fun c31 => ?_)
          · exact inc
          ·
            refine gh_aload_n C dR_of_34 rfl ?_
            refine rw_get C h0 fR_16 rfl dR_of_35 ?_
            refine gh_iload C dR_of_38 rfl ?_
            refine rw_ild C h0 4 2600 ⟨rfl, rfl, rfl, by decide⟩ (i) rfl (by omega) dR_of_40 ?_
            refine gh_iload_n C dR_of_41 rfl ?_
            refine gh_icmp_ne C 48 dR_of_42 (by decide) (fun c42 => ?_) (fun c42 => ?_)
            · exact inc
            · exact absurd ⟨c20, c31, c42⟩ (hno i hlt)
  refine gh_iconst C 0 dR_of_0 (by decide) ?_
  refine gh_istore C [some (.ref (y 0)), some (.int k), some (.int a), some (.int b), some (.int 0)] dR_of_1 rfl (Nat.le_of_ble_eq_true rfl) ?_
  exact loop (R.1 1) 0 (by omega)
set_option maxRecDepth 100000 in
set_option maxHeartbeats 4000000 in
theorem r_encrypt (l : Launch) (d : gh_D) (g : gh_H) {y : Nat → Nat} {R : SR} (hR : rR g y R) (a b c : Int32) (hN : R.1 7 < 3600) (hE : R.1 12 < 60) : gh_C l d mR_encrypt (rr 0 0 0) [.ref (y 0), .int a, .int b, .int c] g (fun v g1 => v = none ∧ rQ g g1 y (enR R a b c)) := by
  refine gh_of [some (.ref (y 0)), some (.int a), some (.int b), some (.int c)] (by decide) rfl (Nat.le_of_ble_eq_true rfl) (by simp [Value.category]) (fun z C hQ => ?_)
  show gh_W l d z 0 [some (.ref (y 0)), some (.int a), some (.int b), some (.int c)] [] g 0 0
  have h0 := rQ.rf hR
  refine gh_aload_n C dR_encrypt_0 rfl ?_
  refine rw_get C h0 fR_26 rfl dR_encrypt_1 ?_
  refine gh_aload_n C dR_encrypt_4 rfl ?_
  refine rw_get C h0 fR_161 rfl dR_encrypt_5 ?_
  refine gh_iload_n C dR_encrypt_8 rfl ?_
  refine rw_ist C h0 8 3600 ⟨rfl, rfl, rfl, by decide⟩ (R.1 7) rfl (by omega) dR_encrypt_9 (fun g101 h101 => ?_)
  have h101 : rQ g g101 y (ra R 8 (upd (R.2 8) (R.1 7) a)) := h101
  refine gh_aload_n C dR_encrypt_10 rfl ?_
  refine rw_get C h101 fR_29 rfl dR_encrypt_11 ?_
  refine gh_aload_n C dR_encrypt_14 rfl ?_
  refine rw_get C h101 fR_161 rfl dR_encrypt_15 ?_
  refine gh_ti (nI (R.1 7)) rfl ?_
  refine gh_iload_n C dR_encrypt_18 rfl ?_
  refine rw_ist C h101 9 3600 ⟨rfl, rfl, rfl, by decide⟩ (R.1 7) rfl (by omega) dR_encrypt_19 (fun g102 h102 => ?_)
  have h102 : rQ g g102 y (ra (ra R 8 (upd (R.2 8) (R.1 7) a)) 9 (upd (R.2 9) (R.1 7) b)) := h102
  refine gh_aload_n C dR_encrypt_20 rfl ?_
  refine rw_get C h102 fR_32 rfl dR_encrypt_21 ?_
  refine gh_aload_n C dR_encrypt_24 rfl ?_
  refine rw_get C h102 fR_161 rfl dR_encrypt_25 ?_
  refine gh_ti (nI (R.1 7)) rfl ?_
  refine gh_aload_n C dR_encrypt_28 rfl ?_
  refine rw_get C h102 fR_151 rfl dR_encrypt_29 ?_
  refine gh_ti (nI (R.1 12)) rfl ?_
  refine rw_ist C h102 10 3600 ⟨rfl, rfl, rfl, by decide⟩ (R.1 7) rfl (by omega) dR_encrypt_32 (fun g103 h103 => ?_)
  have h103 : rQ g g103 y (ra (ra (ra R 8 (upd (R.2 8) (R.1 7) a)) 9 (upd (R.2 9) (R.1 7) b)) 10 (upd (R.2 10) (R.1 7) (nI (R.1 12)))) := h103
  refine gh_aload_n C dR_encrypt_33 rfl ?_
  refine rw_get C h103 fR_35 rfl dR_encrypt_34 ?_
  refine gh_aload_n C dR_encrypt_37 rfl ?_
  refine rw_get C h103 fR_161 rfl dR_encrypt_38 ?_
  refine gh_ti (nI (R.1 7)) rfl ?_
  refine gh_iload_n C dR_encrypt_41 rfl ?_
  refine rw_ist C h103 11 3600 ⟨rfl, rfl, rfl, by decide⟩ (R.1 7) rfl (by omega) dR_encrypt_42 (fun g104 h104 => ?_)
  have h104 : rQ g g104 y (ra (ra (ra (ra R 8 (upd (R.2 8) (R.1 7) a)) 9 (upd (R.2 9) (R.1 7) b)) 10 (upd (R.2 10) (R.1 7) (nI (R.1 12)))) 11 (upd (R.2 11) (R.1 7) c)) := h104
  refine gh_aload_n C dR_encrypt_43 rfl ?_
  refine gh_dup C dR_encrypt_44 rfl ?_
  refine rw_get C h104 fR_161 rfl dR_encrypt_45 ?_
  refine gh_ti (nI (R.1 7)) rfl ?_
  refine gh_iconst C 1 dR_encrypt_48 (by decide) ?_
  refine gh_iadd C dR_encrypt_49 ?_
  refine gh_ti (nI (R.1 7 + 1)) (nI_add (R.1 7) 1) ?_
  refine rw_put C h104 (R.1 7 + 1) rfl pR_161 (by decide) rfl (by decide) (fun _ => rfl) (fun _ => rfl) dR_encrypt_50 (fun g105 h105 => ?_)
  refine gh_aload_n C dR_encrypt_53 rfl ?_
  refine rw_get C h105 fR_59 rfl dR_encrypt_54 ?_
  refine gh_aload_n C dR_encrypt_57 rfl ?_
  refine rw_get C h105 fR_151 rfl dR_encrypt_58 ?_
  refine gh_ti (nI (R.1 12)) rfl ?_
  refine gh_dup2 C dR_encrypt_61 rfl rfl ?_
  refine rw_ild C h105 20 60 ⟨rfl, rfl, rfl, by decide⟩ (R.1 12) rfl (by omega) dR_encrypt_62 ?_
  refine gh_ti (R.2 20 (R.1 12)) rfl ?_
  refine gh_iconst C 1 dR_encrypt_63 (by decide) ?_
  refine gh_iadd C dR_encrypt_64 ?_
  refine rw_ist C h105 20 60 ⟨rfl, rfl, rfl, by decide⟩ (R.1 12) rfl (by omega) dR_encrypt_65 (fun g106 h106 => ?_)
  have h106 : rQ g g106 y (ra (ri (ra (ra (ra (ra R 8 (upd (R.2 8) (R.1 7) a)) 9 (upd (R.2 9) (R.1 7) b)) 10 (upd (R.2 10) (R.1 7) (nI (R.1 12)))) 11 (upd (R.2 11) (R.1 7) c)) 7 (R.1 7 + 1)) 20 (upd (R.2 20) (R.1 12) ((R.2 20 (R.1 12)) + 1))) := h106
  refine gh_vret C hQ rfl dR_encrypt_66 ?_
  exact ⟨rfl, h106⟩
set_option maxRecDepth 100000 in
set_option maxHeartbeats 4000000 in
theorem r_above (l : Launch) (d : gh_D) (g : gh_H) (a h : Nat) (ha : a < 16) (hh : h ≤ 4) : gh_C l d mR_above (rr 0 0 0) [.int (nI a), .int (nI h)] g (fun v g1 => v = some (.int (nI (pn a h))) ∧ g1 = g) := by
  refine gh_of [some (.int (nI a)), some (.int (nI h))] (by decide) rfl (Nat.le_of_ble_eq_true rfl) (by simp [Value.category]) (fun z C hQ => ?_)
  show gh_W l d z 0 [some (.int (nI a)), some (.int (nI h))] [] g 0 0
  refine gh_iload_n C dR_above_0 rfl ?_
  refine gh_iload_n C dR_above_1 rfl ?_
  refine gh_ishr C dR_above_2 ?_
  refine gh_iload_n C dR_above_3 rfl ?_
  refine gh_iconst C 1 dR_above_4 (by decide) ?_
  refine gh_iadd C dR_above_5 ?_
  refine gh_ishl C dR_above_6 ?_
  refine gh_iconst C 1 dR_above_7 (by decide) ?_
  refine gh_iload_n C dR_above_8 rfl ?_
  refine gh_ishl C dR_above_9 ?_
  refine gh_iadd C dR_above_10 ?_
  refine gh_iconst C 1 dR_above_11 (by decide) ?_
  refine gh_isub C dR_above_12 ?_
  refine gh_ti (nI (pn a h)) (pn_w h hh a ha) ?_
  refine gh_iret C hQ rfl dR_above_13 ?_
  exact ⟨rfl, rfl⟩
theorem hgt_b : ∀ v, v < 31 → ∀ h, h ≤ hgt v → ((nI v >>> (nI h &&& 31)) &&& 1 = 1 ↔ h < hgt v) := by decide +kernel
set_option maxRecDepth 100000 in
set_option maxHeartbeats 4000000 in
theorem r_height (l : Launch) (d : gh_D) (g : gh_H) (u : Nat) (hu : u < 31) : gh_C l d mR_height (rr 0 0 0) [.int (nI u)] g (fun v g1 => v = some (.int (nI (hgt u))) ∧ g1 = g) := by
  refine gh_of [some (.int (nI u)), none] (by decide) rfl (Nat.le_of_ble_eq_true rfl) (by simp [Value.category]) (fun z C hQ => ?_)
  show gh_W l d z 0 [some (.int (nI u)), none] [] g 0 0
  have h4 := (hgt_le u hu).1
  have loop : ∀ (c h : Nat), h + c = hgt u → gh_W l d z 2 [some (.int (nI u)), some (.int (nI h))] [] g 0 0 := by
    intro c
    induction c with
    | zero =>
      intro h hi
      have hi : h = hgt u := by omega
      have hb := hgt_b u hu h (by omega)
      refine gh_iload_n C dR_height_2 rfl ?_
      refine gh_iload_n C dR_height_3 rfl ?_
      refine gh_ishr C dR_height_4 ?_
      refine gh_iconst C 1 dR_height_5 (by decide) ?_
      refine gh_iand C dR_height_6 ?_
      refine gh_iconst C 1 dR_height_7 (by decide) ?_
      refine gh_icmp_ne C 17 dR_height_8 (by decide) (fun c8 => ?_) (fun c8 => ?_)
      ·
        refine gh_iload_n C dR_height_17 rfl ?_
        refine gh_iret C hQ rfl dR_height_18 ?_
        exact ⟨by rw [hi], rfl⟩
      · exact absurd (hb.mp c8) (by omega)
    | succ c ih =>
      intro h hi
      have hb := hgt_b u hu h (by omega)
      refine gh_iload_n C dR_height_2 rfl ?_
      refine gh_iload_n C dR_height_3 rfl ?_
      refine gh_ishr C dR_height_4 ?_
      refine gh_iconst C 1 dR_height_5 (by decide) ?_
      refine gh_iand C dR_height_6 ?_
      refine gh_iconst C 1 dR_height_7 (by decide) ?_
      refine gh_icmp_ne C 17 dR_height_8 (by decide) (fun c8 => ?_) (fun c8 => ?_)
      · exact absurd (hb.mpr (by omega)) c8
      ·
        refine gh_iinc C (nI (h + 1)) [some (.int (nI u)), some (.int (nI (h + 1)))] dR_height_11 rfl (gh_inc h) rfl ?_
        refine gh_goto C 2 dR_height_14 (by decide) ?_
        exact ih (h + 1) (by omega)
  refine gh_iconst C 0 dR_height_0 (by decide) ?_
  refine gh_istore_n C [some (.int (nI u)), some (.int 0)] dR_height_1 rfl (Nat.le_of_ble_eq_true rfl) ?_
  exact loop (hgt u) 0 (by omega)
set_option maxRecDepth 100000 in
set_option maxHeartbeats 4000000 in
theorem r_width (l : Launch) (d : gh_D) (g : gh_H) {y : Nat → Nat} {R : SR} (hR : rR g y R) (e D : Nat) (he : e < 60) (hD : R.2 13 e = nI D) (hD4 : D ≤ 4) : gh_C l d mR_width (rr 0 0 0) [.ref (y 0), .int (nI e)] g (fun v g1 => v = some (.int (nI (tW D))) ∧ g1 = g) := by
  refine gh_of [some (.ref (y 0)), some (.int (nI e))] (by decide) rfl (Nat.le_of_ble_eq_true rfl) (by simp [Value.category]) (fun z C hQ => ?_)
  show gh_W l d z 0 [some (.ref (y 0)), some (.int (nI e))] [] g 0 0
  have h0 := rQ.rf hR
  refine gh_iconst C 2 dR_width_0 (by decide) ?_
  refine gh_aload_n C dR_width_1 rfl ?_
  refine rw_get C h0 fR_38 rfl dR_width_2 ?_
  refine gh_iload_n C dR_width_5 rfl ?_
  refine rw_ild C h0 13 60 ⟨rfl, rfl, rfl, by decide⟩ (e) rfl (by omega) dR_width_6 ?_
  refine gh_ti (nI D) hD ?_
  refine gh_ishl C dR_width_7 ?_
  refine gh_iconst C 1 dR_width_8 (by decide) ?_
  refine gh_isub C dR_width_9 ?_
  refine gh_ti (nI (tW D)) (thr_w D hD4) ?_
  refine gh_iret C hQ rfl dR_width_10 ?_
  exact ⟨rfl, rfl⟩
set_option maxRecDepth 100000 in
set_option maxHeartbeats 4000000 in
theorem r_blank (l : Launch) (d : gh_D) (g : gh_H) {y : Nat → Nat} {R : SR} (hR : rR g y R) (e u : Nat) (he : e < 60) (hu : u < 31) : gh_C l d mR_blank (rr 0 0 0) [.ref (y 0), .int (nI e), .int (nI u)] g (fun v g1 => v = none ∧ rQ g g1 y (blR R e u)) := by
  refine gh_of [some (.ref (y 0)), some (.int (nI e)), some (.int (nI u))] (by decide) rfl (Nat.le_of_ble_eq_true rfl) (by simp [Value.category]) (fun z C hQ => ?_)
  show gh_W l d z 0 [some (.ref (y 0)), some (.int (nI e)), some (.int (nI u))] [] g 0 0
  have h0 := rQ.rf hR
  refine gh_aload_n C dR_blank_0 rfl ?_
  refine rw_get C h0 fR_65 rfl dR_blank_1 ?_
  refine gh_bipush C 31 dR_blank_4 (by decide) ?_
  refine gh_iload_n C dR_blank_6 rfl ?_
  refine gh_imul C dR_blank_7 ?_
  refine gh_ti (nI (31 * e)) (pk_mul 31 e) ?_
  refine gh_iload_n C dR_blank_8 rfl ?_
  refine gh_iadd C dR_blank_9 ?_
  refine gh_ti (nI (31 * e + u)) (nI_add (31 * e) u) ?_
  refine gh_iconst C (-1) dR_blank_10 (by decide) ?_
  refine rw_ist C h0 22 1860 ⟨rfl, rfl, rfl, by decide⟩ (31 * e + u) rfl (by omega) dR_blank_11 (fun g101 h101 => ?_)
  have h101 : rQ g g101 y (ra R 22 (upd (R.2 22) (31 * e + u) (-1))) := h101
  refine gh_aload_n C dR_blank_12 rfl ?_
  refine rw_get C h101 fR_68 rfl dR_blank_13 ?_
  refine gh_bipush C 31 dR_blank_16 (by decide) ?_
  refine gh_iload_n C dR_blank_18 rfl ?_
  refine gh_imul C dR_blank_19 ?_
  refine gh_ti (nI (31 * e)) (pk_mul 31 e) ?_
  refine gh_iload_n C dR_blank_20 rfl ?_
  refine gh_iadd C dR_blank_21 ?_
  refine gh_ti (nI (31 * e + u)) (nI_add (31 * e) u) ?_
  refine gh_iconst C 0 dR_blank_22 (by decide) ?_
  refine rw_ist C h101 23 1860 ⟨rfl, rfl, rfl, by decide⟩ (31 * e + u) rfl (by omega) dR_blank_23 (fun g102 h102 => ?_)
  have h102 : rQ g g102 y (ra (ra R 22 (upd (R.2 22) (31 * e + u) (-1))) 23 (upd (R.2 23) (31 * e + u) 0)) := h102
  refine gh_vret C hQ rfl dR_blank_24 ?_
  exact ⟨rfl, h102⟩
set_option maxRecDepth 100000 in
set_option maxHeartbeats 4000000 in
theorem r_set (l : Launch) (d : gh_D) (g : gh_H) {y : Nat → Nat} {R : SR} (hR : rR g y R) (e u : Nat) (k : Int32) (he : e < 60) (hu : u < 31) : gh_C l d mR_set (rr 0 0 0) [.ref (y 0), .int (nI e), .int (nI u), .int k] g (fun v g1 => v = none ∧ rQ g g1 y (stR R e u k)) := by
  refine gh_of [some (.ref (y 0)), some (.int (nI e)), some (.int (nI u)), some (.int k)] (by decide) rfl (Nat.le_of_ble_eq_true rfl) (by simp [Value.category]) (fun z C hQ => ?_)
  show gh_W l d z 0 [some (.ref (y 0)), some (.int (nI e)), some (.int (nI u)), some (.int k)] [] g 0 0
  have h0 := rQ.rf hR
  refine gh_aload_n C dR_set_0 rfl ?_
  refine rw_get C h0 fR_65 rfl dR_set_1 ?_
  refine gh_bipush C 31 dR_set_4 (by decide) ?_
  refine gh_iload_n C dR_set_6 rfl ?_
  refine gh_imul C dR_set_7 ?_
  refine gh_ti (nI (31 * e)) (pk_mul 31 e) ?_
  refine gh_iload_n C dR_set_8 rfl ?_
  refine gh_iadd C dR_set_9 ?_
  refine gh_ti (nI (31 * e + u)) (nI_add (31 * e) u) ?_
  refine gh_iload_n C dR_set_10 rfl ?_
  refine rw_ist C h0 22 1860 ⟨rfl, rfl, rfl, by decide⟩ (31 * e + u) rfl (by omega) dR_set_11 (fun g101 h101 => ?_)
  have h101 : rQ g g101 y (ra R 22 (upd (R.2 22) (31 * e + u) k)) := h101
  refine gh_aload_n C dR_set_12 rfl ?_
  refine rw_get C h101 fR_68 rfl dR_set_13 ?_
  refine gh_bipush C 31 dR_set_16 (by decide) ?_
  refine gh_iload_n C dR_set_18 rfl ?_
  refine gh_imul C dR_set_19 ?_
  refine gh_ti (nI (31 * e)) (pk_mul 31 e) ?_
  refine gh_iload_n C dR_set_20 rfl ?_
  refine gh_iadd C dR_set_21 ?_
  refine gh_ti (nI (31 * e + u)) (nI_add (31 * e) u) ?_
  refine gh_iconst C 0 dR_set_22 (by decide) ?_
  refine rw_ist C h101 23 1860 ⟨rfl, rfl, rfl, by decide⟩ (31 * e + u) rfl (by omega) dR_set_23 (fun g102 h102 => ?_)
  have h102 : rQ g g102 y (ra (ra R 22 (upd (R.2 22) (31 * e + u) k)) 23 (upd (R.2 23) (31 * e + u) 0)) := h102
  refine gh_aload_n C dR_set_24 rfl ?_
  refine rw_get C h102 fR_71 rfl dR_set_25 ?_
  refine gh_bipush C 31 dR_set_28 (by decide) ?_
  refine gh_iload_n C dR_set_30 rfl ?_
  refine gh_imul C dR_set_31 ?_
  refine gh_ti (nI (31 * e)) (pk_mul 31 e) ?_
  refine gh_iload_n C dR_set_32 rfl ?_
  refine gh_iadd C dR_set_33 ?_
  refine gh_ti (nI (31 * e + u)) (nI_add (31 * e) u) ?_
  refine gh_iload_n C dR_set_34 rfl ?_
  refine rw_ist C h102 24 1860 ⟨rfl, rfl, rfl, by decide⟩ (31 * e + u) rfl (by omega) dR_set_35 (fun g103 h103 => ?_)
  have h103 : rQ g g103 y (ra (ra (ra R 22 (upd (R.2 22) (31 * e + u) k)) 23 (upd (R.2 23) (31 * e + u) 0)) 24 (upd (R.2 24) (31 * e + u) (nI e))) := h103
  refine gh_vret C hQ rfl dR_set_36 ?_
  exact ⟨rfl, h103⟩
set_option maxRecDepth 100000 in
set_option maxHeartbeats 4000000 in
theorem r_blankPath (l : Launch) (d : gh_D) (g : gh_H) {y : Nat → Nat} {R : SR} (hR : rR g y R) (e a D : Nat) (he : e < 60) (ha : a < 16) (hD : R.2 13 e = nI D) (hD4 : D ≤ 4) : gh_C l d mR_blankPath (rr 1 0 0) [.ref (y 0), .int (nI e), .int (nI a)] g (fun v g1 => v = none ∧ rQ g g1 y (bpR R e a D)) := by
  refine gh_of [some (.ref (y 0)), some (.int (nI e)), some (.int (nI a)), none] (by decide) rfl (Nat.le_of_ble_eq_true rfl) (by simp [Value.category]) (fun z C hQ => ?_)
  show gh_W l d z 0 [some (.ref (y 0)), some (.int (nI e)), some (.int (nI a)), none] [] g 0 0
  have h0 := rQ.rf hR
  have loop : ∀ (c h : Nat) (g1 : gh_H), h + c = D → rQ g g1 y (bpR R e a h) → gh_W l d z 2 [some (.ref (y 0)), some (.int (nI e)), some (.int (nI a)), some (.int (nI (h + 1)))] [] g1 0 0 := by
    intro c
    induction c with
    | zero =>
      intro h g1 hi h1
      have hi : h = D := by omega
      have hDh : (bpR R e a h).2 13 e = nI D := by rw [bpR_2 R e a h (by decide) (by decide)]; exact hD
      refine gh_iload_n C dR_blankPath_2 rfl ?_
      refine gh_aload_n C dR_blankPath_3 rfl ?_
      refine rw_get C h1 fR_38 rfl dR_blankPath_4 ?_
      refine gh_iload_n C dR_blankPath_7 rfl ?_
      refine rw_ild C h1 13 60 ⟨rfl, rfl, rfl, by decide⟩ (e) rfl (by omega) dR_blankPath_8 ?_
      refine gh_ti (nI D) hDh ?_
      refine gh_icmp_gt C 28 dR_blankPath_9 (by decide) (fun c9 => ?_) (fun c9 => ?_)
      ·
        refine gh_vret C hQ rfl dR_blankPath_28 ?_
        exact ⟨rfl, by rw [← hi]; exact h1⟩
      · exact absurd (show nI D < nI (h + 1) from nI_lt (by omega) (by omega)) c9
    | succ c ih =>
      intro h g1 hi h1
      have hDh : (bpR R e a h).2 13 e = nI D := by rw [bpR_2 R e a h (by decide) (by decide)]; exact hD
      refine gh_iload_n C dR_blankPath_2 rfl ?_
      refine gh_aload_n C dR_blankPath_3 rfl ?_
      refine rw_get C h1 fR_38 rfl dR_blankPath_4 ?_
      refine gh_iload_n C dR_blankPath_7 rfl ?_
      refine rw_ild C h1 13 60 ⟨rfl, rfl, rfl, by decide⟩ (e) rfl (by omega) dR_blankPath_8 ?_
      refine gh_ti (nI D) hDh ?_
      refine gh_icmp_gt C 28 dR_blankPath_9 (by decide) (fun c9 => ?_) (fun c9 => ?_)
      · exact absurd (show nI D < nI (h + 1) from c9) (nI_nlt (by omega) (by omega))
      ·
        refine gh_aload_n C dR_blankPath_12 rfl ?_
        refine gh_iload_n C dR_blankPath_13 rfl ?_
        refine gh_iload_n C dR_blankPath_14 rfl ?_
        refine gh_iload_n C dR_blankPath_15 rfl ?_
        refine gh_callS C [.int (nI a), .int (nI (h + 1))] (r_above l d _ a (h + 1) ha (by omega)) lR_168 wR_above sR_above rfl rfl (Nat.le_of_ble_eq_true rfl) ⟨Nat.le_of_ble_eq_true rfl, Nat.le_of_ble_eq_true rfl⟩ (Nat.le_of_ble_eq_true rfl) (Nat.le_of_ble_eq_true rfl) dR_blankPath_16 (fun v101 g101 k101 => ?_)
        obtain ⟨rfl, e101⟩ := k101
        subst g101
        refine gh_callV C [.int (nI e), .int (nI (pn a (h + 1)))] (r_blank l d _ h1.1 e (pn a (h + 1)) he (pn_lt (h + 1) (by omega) a ha)) lR_172 wR_blank vR_blank h1.1.1 rfl rfl rfl (Nat.le_of_ble_eq_true rfl) ⟨Nat.le_of_ble_eq_true rfl, Nat.le_of_ble_eq_true rfl⟩ (Nat.le_of_ble_eq_true rfl) (Nat.le_of_ble_eq_true rfl) dR_blankPath_19 (fun v102 g102 k102 => ?_)
        obtain ⟨rfl, h102⟩ := k102
        replace h102 := h1.tr h102
        refine gh_iinc C (nI (h + 1 + 1)) [some (.ref (y 0)), some (.int (nI e)), some (.int (nI a)), some (.int (nI (h + 1 + 1)))] dR_blankPath_22 rfl (gh_inc (h + 1)) rfl ?_
        refine gh_goto C 2 dR_blankPath_25 (by decide) ?_
        exact ih (h + 1) _ (by omega) h102
  refine gh_iconst C 1 dR_blankPath_0 (by decide) ?_
  refine gh_istore_n C [some (.ref (y 0)), some (.int (nI e)), some (.int (nI a)), some (.int 1)] dR_blankPath_1 rfl (Nat.le_of_ble_eq_true rfl) ?_
  exact loop D 0 g (by omega) h0
