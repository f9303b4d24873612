/-! proposing, offering -/
def latR (R : SR) (m : Nat) : Bool := decide (R.2 27 m = nI (R.1 12 - 1))
def asT (R : SR) (x b : Int32) : Nat := if inn 16 x = true ∧ b ≠ 0 then (if latR R x.toNatClampNeg = true ∧ R.1 42 ≠ 20 then 0 else 2) else 1
theorem asT_0 {R : SR} {x b : Int32} (h : asT R x b = 0) : (inn 16 x = true ∧ b ≠ 0) ∧ latR R x.toNatClampNeg = true ∧ R.1 42 ≠ 20 := by
  unfold asT at h
  by_cases h1 : inn 16 x = true ∧ b ≠ 0
  · rw [if_pos h1] at h
    by_cases h2 : latR R x.toNatClampNeg = true ∧ R.1 42 ≠ 20
    · exact ⟨h1, h2⟩
    · rw [if_neg h2] at h; cases h
  · rw [if_neg h1] at h; cases h
def prR (R : SR) (k m w : Int32) : SR := ri (ra (ra (ra R 43 (upd (R.2 43) (R.1 42) k)) 44 (upd (R.2 44) (R.1 42) m)) 45 (upd (R.2 45) (R.1 42) w)) 42 (R.1 42 + 1)
def ofR (R : SR) (m : Nat) : SR :=
  let A := mkR (ra (ri R 0 0) 36 (upd (R.2 36) (R.1 35) (nI m))) 1 0 0
  let B := mkR (ra A 37 (upd (R.2 37) (R.1 35) (nI (R.1 1)))) 1 0 0
  ri (ra (ra B 38 (upd (R.2 38) (R.1 35) (nI (R.1 1 + 1)))) 39 (upd (R.2 39) (R.1 35) (-1))) 35 (R.1 35 + 1)
def ukR (R : SR) (m uc : Nat) : SR :=
  let A := mkR R 1 0 0
  ra (ra A 34 (upd (R.2 34) (20 * m + uc) (nI (R.1 1)))) 31 (upd (R.2 31) m (nI (uc + 1)))
set_option maxRecDepth 100000 in
set_option maxHeartbeats 4000000 in
theorem r_isLatest (l : Launch) (d : gh_D) (g : gh_H) {y : Nat → Nat} {R : SR} (hR : rR g y R) (m : Nat) (hm : m < 16) (hE : 1 ≤ R.1 12) : gh_C l d mR_isLatest (rr 0 0 0) [.ref (y 0), .int (nI m)] g (fun v g1 => v = some (.int (if latR R m = true then 1 else 0)) ∧ g1 = g) := by
  refine gh_of [some (.ref (y 0)), some (.int (nI m))] (by decide) rfl (Nat.le_of_ble_eq_true rfl) (by simp [Value.category]) (fun z C hQ => ?_)
  show gh_W l d z 0 [some (.ref (y 0)), some (.int (nI m))] [] g 0 0
  have h0 := rQ.rf hR
  refine gh_aload_n C dR_isLatest_0 rfl ?_
  refine rw_get C h0 fR_80 rfl dR_isLatest_1 ?_
  refine gh_iload_n C dR_isLatest_4 rfl ?_
  refine rw_ild C h0 27 16 ⟨rfl, rfl, rfl, by decide⟩ (m) rfl (by omega) dR_isLatest_5 ?_
  refine gh_aload_n C dR_isLatest_6 rfl ?_
  refine rw_get C h0 fR_151 rfl dR_isLatest_7 ?_
  refine gh_iconst C 1 dR_isLatest_10 (by decide) ?_
  refine gh_isub C dR_isLatest_11 ?_
  refine gh_ti (nI (R.1 12 - 1)) (pred_n hE) ?_
  refine gh_icmp_ne C 19 dR_isLatest_12 (by decide) (fun c12 => ?_) (fun c12 => ?_)
  ·
    have hz : ¬ latR R m = true := by unfold latR; simpa using c12
    refine gh_iconst C 0 dR_isLatest_19 (by decide) ?_
    refine gh_zret C hQ rfl (by simp) dR_isLatest_20 ?_
    first | exact ⟨by rw [if_pos hz], rfl⟩ | exact ⟨by rw [if_neg hz], rfl⟩
  ·
    have hz : latR R m = true := by unfold latR; simpa using c12
    refine gh_iconst C 1 dR_isLatest_15 (by decide) ?_
    refine gh_goto C 20 dR_isLatest_16 (by decide) ?_
    refine gh_zret C hQ rfl (by simp) dR_isLatest_20 ?_
    first | exact ⟨by rw [if_pos hz], rfl⟩ | exact ⟨by rw [if_neg hz], rfl⟩
set_option maxRecDepth 100000 in
set_option maxHeartbeats 4000000 in
theorem r_isAsked (l : Launch) (d : gh_D) (g : gh_H) {y : Nat → Nat} {R : SR} (hR : rR g y R) (x b : Int32) (hE : 1 ≤ R.1 12) (hW : R.1 42 ≤ 20) : gh_C l d mR_isAsked (rr 1 0 0) [.ref (y 0), .int x, .int b] g (fun v g1 => v = some (.int (if asT R x b = 0 then 1 else 0)) ∧ rQ g g1 y (ri R 0 (asT R x b))) := by
  refine gh_of [some (.ref (y 0)), some (.int x), some (.int b)] (by decide) rfl (Nat.le_of_ble_eq_true rfl) (by simp [Value.category]) (fun z C hQ => ?_)
  show gh_W l d z 0 [some (.ref (y 0)), some (.int x), some (.int b)] [] g 0 0
  have h0 := rQ.rf hR
  refine gh_aload_n C dR_isAsked_0 rfl ?_
  refine gh_iload_n C dR_isAsked_1 rfl ?_
  refine gh_bipush C 16 dR_isAsked_2 (by decide) ?_
  refine gh_callS C [.int x, .int 16] (r_inn l d _ 16 x) lR_264 wR_in sR_in rfl rfl (Nat.le_of_ble_eq_true rfl) ⟨Nat.le_of_ble_eq_true rfl, Nat.le_of_ble_eq_true rfl⟩ (Nat.le_of_ble_eq_true rfl) (Nat.le_of_ble_eq_true rfl) dR_isAsked_4 (fun v101 g101 k101 => ?_)
  obtain ⟨rfl, e101⟩ := k101
  subst g101
  refine gh_if_eq C 14 dR_isAsked_7 (by decide) (fun c7 => ?_) (fun c7 => ?_)
  ·
    have e7 : ¬ inn 16 x = true := fun h => by rw [if_pos h] at c7; exact absurd c7 (by decide)
    have hz : asT R x b = 1 := if_neg (fun h => e7 h.1)
    refine gh_iconst C 1 dR_isAsked_14 (by decide) ?_
    refine gh_goto C 40 dR_isAsked_15 (by decide) ?_
    refine rw_put C h0 (1) rfl pR_155 (by decide) rfl (by decide) (fun _ => rfl) (fun _ => rfl) dR_isAsked_40 (fun g102 h102 => ?_)
    refine gh_aload_n C dR_isAsked_43 rfl ?_
    refine rw_get C h102 fR_155 rfl dR_isAsked_44 ?_
    refine gh_ti (nI (1)) rfl ?_
    refine gh_if_ne C 54 dR_isAsked_47 (by decide) (fun c47 => ?_) (fun c47 => ?_)
    ·
      refine gh_iconst C 0 dR_isAsked_54 (by decide) ?_
      refine gh_zret C hQ rfl (by simp) dR_isAsked_55 ?_
      exact ⟨by simp [hz], by rw [hz]; exact h102⟩
    · exact absurd c47 (by decide)
  ·
    have e7 : inn 16 x = true := by
      by_cases h : inn 16 x = true
      · exact h
      · rw [if_neg h] at c7; exact absurd rfl c7
    obtain ⟨m, hm, hx⟩ := inn_of (by decide) e7
    have hcl : x.toNatClampNeg = m := by rw [hx]; exact nI_clamp (by omega)
    refine gh_iload_n C dR_isAsked_10 rfl ?_
    refine gh_if_ne C 18 dR_isAsked_11 (by decide) (fun c11 => ?_) (fun c11 => ?_)
    ·
      refine gh_aload_n C dR_isAsked_18 rfl ?_
      refine gh_iload_n C dR_isAsked_19 rfl ?_
      refine gh_callV C [.int x] ((by rw [hx]; exact r_isLatest l d _ h0.1 m hm hE : gh_C l d mR_isLatest (rr 0 0 0) [.ref (y 0), .int x] _ (fun v g1 => v = some (.int (if latR R m = true then 1 else 0)) ∧ g1 = _))) lR_267 wR_isLatest vR_isLatest h0.1.1 rfl rfl rfl (Nat.le_of_ble_eq_true rfl) ⟨Nat.le_of_ble_eq_true rfl, Nat.le_of_ble_eq_true rfl⟩ (Nat.le_of_ble_eq_true rfl) (Nat.le_of_ble_eq_true rfl) dR_isAsked_20 (fun v103 g103 k103 => ?_)
      obtain ⟨rfl, e103⟩ := k103
      subst g103
      refine gh_if_eq C 35 dR_isAsked_23 (by decide) (fun c23 => ?_) (fun c23 => ?_)
      ·
        have e23 : ¬ latR R m = true := fun h => by rw [if_pos h] at c23; exact absurd c23 (by decide)
        have hz : asT R x b = 2 := by unfold asT; rw [if_pos ⟨e7, c11⟩, hcl, if_neg (fun h => e23 h.1)]
        refine gh_iconst C 2 dR_isAsked_35 (by decide) ?_
        refine gh_goto C 40 dR_isAsked_36 (by decide) ?_
        refine rw_put C h0 (2) rfl pR_155 (by decide) rfl (by decide) (fun _ => rfl) (fun _ => rfl) dR_isAsked_40 (fun g104 h104 => ?_)
        refine gh_aload_n C dR_isAsked_43 rfl ?_
        refine rw_get C h104 fR_155 rfl dR_isAsked_44 ?_
        refine gh_ti (nI (2)) rfl ?_
        refine gh_if_ne C 54 dR_isAsked_47 (by decide) (fun c47 => ?_) (fun c47 => ?_)
        ·
          refine gh_iconst C 0 dR_isAsked_54 (by decide) ?_
          refine gh_zret C hQ rfl (by simp) dR_isAsked_55 ?_
          exact ⟨by simp [hz], by rw [hz]; exact h104⟩
        · exact absurd c47 (by decide)
      ·
        have e23 : latR R m = true := by
          by_cases h : latR R m = true
          · exact h
          · rw [if_neg h] at c23; exact absurd rfl c23
        refine gh_aload_n C dR_isAsked_26 rfl ?_
        refine rw_get C h0 fR_195 rfl dR_isAsked_27 ?_
        refine gh_bipush C 20 dR_isAsked_30 (by decide) ?_
        refine gh_icmp_ne C 39 dR_isAsked_32 (by decide) (fun c32 => ?_) (fun c32 => ?_)
        ·
          have hz : asT R x b = 0 := by
            unfold asT; rw [if_pos ⟨e7, c11⟩, hcl]; exact if_pos ⟨e23, fun h => c32 (by rw [h]; rfl)⟩
          refine gh_iconst C 0 dR_isAsked_39 (by decide) ?_
          refine rw_put C h0 (0) rfl pR_155 (by decide) rfl (by decide) (fun _ => rfl) (fun _ => rfl) dR_isAsked_40 (fun g105 h105 => ?_)
          refine gh_aload_n C dR_isAsked_43 rfl ?_
          refine rw_get C h105 fR_155 rfl dR_isAsked_44 ?_
          refine gh_ti (nI (0)) rfl ?_
          refine gh_if_ne C 54 dR_isAsked_47 (by decide) (fun c47 => ?_) (fun c47 => ?_)
          · exact absurd rfl c47
          ·
            refine gh_iconst C 1 dR_isAsked_50 (by decide) ?_
            refine gh_goto C 55 dR_isAsked_51 (by decide) ?_
            refine gh_zret C hQ rfl (by simp) dR_isAsked_55 ?_
            exact ⟨by simp [hz], by rw [hz]; exact h105⟩
        ·
          have h20 : R.1 42 = 20 := (nI_eq (by omega) (by omega)).mp (show nI (R.1 42) = nI 20 from c32)
          have hz : asT R x b = 2 := by
            unfold asT; rw [if_pos ⟨e7, c11⟩, hcl]; exact if_neg (fun h => h.2 h20)
          refine gh_iconst C 2 dR_isAsked_35 (by decide) ?_
          refine gh_goto C 40 dR_isAsked_36 (by decide) ?_
          refine rw_put C h0 (2) rfl pR_155 (by decide) rfl (by decide) (fun _ => rfl) (fun _ => rfl) dR_isAsked_40 (fun g106 h106 => ?_)
          refine gh_aload_n C dR_isAsked_43 rfl ?_
          refine rw_get C h106 fR_155 rfl dR_isAsked_44 ?_
          refine gh_ti (nI (2)) rfl ?_
          refine gh_if_ne C 54 dR_isAsked_47 (by decide) (fun c47 => ?_) (fun c47 => ?_)
          ·
            refine gh_iconst C 0 dR_isAsked_54 (by decide) ?_
            refine gh_zret C hQ rfl (by simp) dR_isAsked_55 ?_
            exact ⟨by simp [hz], by rw [hz]; exact h106⟩
          · exact absurd c47 (by decide)
    ·
      have hz : asT R x b = 1 := if_neg (fun h => h.2 c11)
      refine gh_iconst C 1 dR_isAsked_14 (by decide) ?_
      refine gh_goto C 40 dR_isAsked_15 (by decide) ?_
      refine rw_put C h0 (1) rfl pR_155 (by decide) rfl (by decide) (fun _ => rfl) (fun _ => rfl) dR_isAsked_40 (fun g107 h107 => ?_)
      refine gh_aload_n C dR_isAsked_43 rfl ?_
      refine rw_get C h107 fR_155 rfl dR_isAsked_44 ?_
      refine gh_ti (nI (1)) rfl ?_
      refine gh_if_ne C 54 dR_isAsked_47 (by decide) (fun c47 => ?_) (fun c47 => ?_)
      ·
        refine gh_iconst C 0 dR_isAsked_54 (by decide) ?_
        refine gh_zret C hQ rfl (by simp) dR_isAsked_55 ?_
        exact ⟨by simp [hz], by rw [hz]; exact h107⟩
      · exact absurd c47 (by decide)
set_option maxRecDepth 100000 in
set_option maxHeartbeats 4000000 in
theorem r_propose (l : Launch) (d : gh_D) (g : gh_H) {y : Nat → Nat} {R : SR} (hR : rR g y R) (k m w : Int32) (hW : R.1 42 < 20) : gh_C l d mR_propose (rr 0 0 0) [.ref (y 0), .int k, .int m, .int w] g (fun v g1 => v = some (.int (nI (R.1 42 + 1))) ∧ rQ g g1 y (prR R k m w)) := by
  refine gh_of [some (.ref (y 0)), some (.int k), some (.int m), some (.int w)] (by decide) rfl (Nat.le_of_ble_eq_true rfl) (by simp [Value.category]) (fun z C hQ => ?_)
  show gh_W l d z 0 [some (.ref (y 0)), some (.int k), some (.int m), some (.int w)] [] g 0 0
  have h0 := rQ.rf hR
  refine gh_aload_n C dR_propose_0 rfl ?_
  refine rw_get C h0 fR_122 rfl dR_propose_1 ?_
  refine gh_aload_n C dR_propose_4 rfl ?_
  refine rw_get C h0 fR_195 rfl dR_propose_5 ?_
  refine gh_iload_n C dR_propose_8 rfl ?_
  refine rw_ist C h0 43 20 ⟨rfl, rfl, rfl, by decide⟩ (R.1 42) rfl (by omega) dR_propose_9 (fun g101 h101 => ?_)
  have h101 : rQ g g101 y (ra R 43 (upd (R.2 43) (R.1 42) k)) := h101
  refine gh_aload_n C dR_propose_10 rfl ?_
  refine rw_get C h101 fR_125 rfl dR_propose_11 ?_
  refine gh_aload_n C dR_propose_14 rfl ?_
  refine rw_get C h101 fR_195 rfl dR_propose_15 ?_
  refine gh_ti (nI (R.1 42)) rfl ?_
  refine gh_iload_n C dR_propose_18 rfl ?_
  refine rw_ist C h101 44 20 ⟨rfl, rfl, rfl, by decide⟩ (R.1 42) rfl (by omega) dR_propose_19 (fun g102 h102 => ?_)
  have h102 : rQ g g102 y (ra (ra R 43 (upd (R.2 43) (R.1 42) k)) 44 (upd (R.2 44) (R.1 42) m)) := h102
  refine gh_aload_n C dR_propose_20 rfl ?_
  refine rw_get C h102 fR_128 rfl dR_propose_21 ?_
  refine gh_aload_n C dR_propose_24 rfl ?_
  refine rw_get C h102 fR_195 rfl dR_propose_25 ?_
  refine gh_ti (nI (R.1 42)) rfl ?_
  refine gh_iload_n C dR_propose_28 rfl ?_
  refine rw_ist C h102 45 20 ⟨rfl, rfl, rfl, by decide⟩ (R.1 42) rfl (by omega) dR_propose_29 (fun g103 h103 => ?_)
  have h103 : rQ g g103 y (ra (ra (ra R 43 (upd (R.2 43) (R.1 42) k)) 44 (upd (R.2 44) (R.1 42) m)) 45 (upd (R.2 45) (R.1 42) w)) := h103
  refine gh_aload_n C dR_propose_30 rfl ?_
  refine gh_dup C dR_propose_31 rfl ?_
  refine rw_get C h103 fR_195 rfl dR_propose_32 ?_
  refine gh_ti (nI (R.1 42)) rfl ?_
  refine gh_iconst C 1 dR_propose_35 (by decide) ?_
  refine gh_iadd C dR_propose_36 ?_
  refine gh_ti (nI (R.1 42 + 1)) (nI_add (R.1 42) 1) ?_
  refine rw_put C h103 (R.1 42 + 1) rfl pR_195 (by decide) rfl (by decide) (fun _ => rfl) (fun _ => rfl) dR_propose_37 (fun g104 h104 => ?_)
  refine gh_aload_n C dR_propose_40 rfl ?_
  refine rw_get C h104 fR_195 rfl dR_propose_41 ?_
  refine gh_ti (nI (R.1 42 + 1)) rfl ?_
  refine gh_iret C hQ rfl dR_propose_44 ?_
  exact ⟨rfl, h104⟩
set_option maxRecDepth 100000 in
set_option maxHeartbeats 4000000 in
theorem r_offer (l : Launch) (d : gh_D) (g : gh_H) {y : Nat → Nat} {R : SR} (hR : rR g y R) (m : Nat) (hm : m < 16) (hP : R.1 35 < 60) (hN : R.1 1 + 2 ≤ 2600) : gh_C l d mR_offer (rr 1 0 0) [.ref (y 0), .int (nI m)] g (fun v g1 => v = some (.int (nI (R.1 35))) ∧ rQ g g1 y (ofR R m)) := by
  refine gh_of [some (.ref (y 0)), some (.int (nI m))] (by decide) rfl (Nat.le_of_ble_eq_true rfl) (by simp [Value.category]) (fun z C hQ => ?_)
  show gh_W l d z 0 [some (.ref (y 0)), some (.int (nI m))] [] g 0 0
  have h0 := rQ.rf hR
  refine gh_aload_n C dR_offer_0 rfl ?_
  refine gh_iload_n C dR_offer_1 rfl ?_
  refine gh_bipush C 16 dR_offer_2 (by decide) ?_
  refine gh_callS C [.int (nI m), .int 16] (r_inn l d _ 16 (nI m)) lR_264 wR_in sR_in rfl rfl (Nat.le_of_ble_eq_true rfl) ⟨Nat.le_of_ble_eq_true rfl, Nat.le_of_ble_eq_true rfl⟩ (Nat.le_of_ble_eq_true rfl) (Nat.le_of_ble_eq_true rfl) dR_offer_4 (fun v101 g101 k101 => ?_)
  obtain ⟨rfl, e101⟩ := k101
  subst g101
  rw [if_pos (inn_n hm (by decide))]
  refine gh_if_ne C 14 dR_offer_7 (by decide) (fun c7 => ?_) (fun c7 => ?_)
  ·
    refine gh_aload_n C dR_offer_14 rfl ?_
    refine rw_get C h0 fR_189 rfl dR_offer_15 ?_
    refine gh_bipush C 60 dR_offer_18 (by decide) ?_
    refine gh_icmp_ne C 27 dR_offer_20 (by decide) (fun c20 => ?_) (fun c20 => ?_)
    ·
      refine gh_iconst C 0 dR_offer_27 (by decide) ?_
      refine rw_put C h0 (0) rfl pR_155 (by decide) rfl (by decide) (fun _ => rfl) (fun _ => rfl) dR_offer_28 (fun g102 h102 => ?_)
      refine gh_aload_n C dR_offer_31 rfl ?_
      refine rw_get C h102 fR_155 rfl dR_offer_32 ?_
      refine gh_ti (nI (0)) rfl ?_
      refine gh_if_le C 40 dR_offer_35 (by decide) (fun c35 => ?_) (fun c35 => ?_)
      ·
        refine gh_aload_n C dR_offer_40 rfl ?_
        refine rw_get C h102 fR_104 rfl dR_offer_41 ?_
        refine gh_aload_n C dR_offer_44 rfl ?_
        refine rw_get C h102 fR_189 rfl dR_offer_45 ?_
        refine gh_ti (nI (R.1 35)) rfl ?_
        refine gh_iload_n C dR_offer_48 rfl ?_
        refine rw_ist C h102 36 60 ⟨rfl, rfl, rfl, by decide⟩ (R.1 35) rfl (by omega) dR_offer_49 (fun g103 h103 => ?_)
        have h103 : rQ g g103 y (ra (ri R 0 (0)) 36 (upd (R.2 36) (R.1 35) (nI m))) := h103
        refine gh_aload_n C dR_offer_50 rfl ?_
        refine rw_get C h103 fR_107 rfl dR_offer_51 ?_
        refine gh_aload_n C dR_offer_54 rfl ?_
        refine rw_get C h103 fR_189 rfl dR_offer_55 ?_
        refine gh_ti (nI (R.1 35)) rfl ?_
        refine gh_aload_n C dR_offer_58 rfl ?_
        refine gh_iconst C 1 dR_offer_59 (by decide) ?_
        refine gh_iconst C 0 dR_offer_60 (by decide) ?_
        refine gh_iconst C 0 dR_offer_61 (by decide) ?_
        refine gh_callV C [.int 1, .int 0, .int 0] (r_make l d _ h103.1 1 0 0 (show R.1 1 < 2600 by omega)) lR_143 wR_make vR_make h103.1.1 rfl rfl rfl (Nat.le_of_ble_eq_true rfl) ⟨Nat.le_of_ble_eq_true rfl, Nat.le_of_ble_eq_true rfl⟩ (Nat.le_of_ble_eq_true rfl) (Nat.le_of_ble_eq_true rfl) dR_offer_62 (fun v104 g104 k104 => ?_)
        obtain ⟨rfl, h104⟩ := k104
        replace h104 := h103.tr h104
        skip
        refine rw_ist C h104 37 60 ⟨rfl, rfl, rfl, by decide⟩ (R.1 35) rfl (by omega) dR_offer_65 (fun g105 h105 => ?_)
        have h105 : rQ g g105 y (ra (mkR (ra (ri R 0 0) 36 (upd (R.2 36) (R.1 35) (nI m))) 1 0 0) 37 (upd (R.2 37) (R.1 35) (nI (R.1 1)))) := h105
        refine gh_aload_n C dR_offer_66 rfl ?_
        refine rw_get C h105 fR_110 rfl dR_offer_67 ?_
        refine gh_aload_n C dR_offer_70 rfl ?_
        refine rw_get C h105 fR_189 rfl dR_offer_71 ?_
        refine gh_ti (nI (R.1 35)) rfl ?_
        refine gh_aload_n C dR_offer_74 rfl ?_
        refine gh_iconst C 1 dR_offer_75 (by decide) ?_
        refine gh_iconst C 0 dR_offer_76 (by decide) ?_
        refine gh_iconst C 0 dR_offer_77 (by decide) ?_
        refine gh_callV C [.int 1, .int 0, .int 0] (r_make l d _ h105.1 1 0 0 (show R.1 1 + 1 < 2600 by omega)) lR_143 wR_make vR_make h105.1.1 rfl rfl rfl (Nat.le_of_ble_eq_true rfl) ⟨Nat.le_of_ble_eq_true rfl, Nat.le_of_ble_eq_true rfl⟩ (Nat.le_of_ble_eq_true rfl) (Nat.le_of_ble_eq_true rfl) dR_offer_78 (fun v106 g106 k106 => ?_)
        obtain ⟨rfl, h106⟩ := k106
        replace h106 := h105.tr h106
        skip
        refine rw_ist C h106 38 60 ⟨rfl, rfl, rfl, by decide⟩ (R.1 35) rfl (by omega) dR_offer_81 (fun g107 h107 => ?_)
        have h107 : rQ g g107 y (ra (mkR (ra (mkR (ra (ri R 0 0) 36 (upd (R.2 36) (R.1 35) (nI m))) 1 0 0) 37 (upd (R.2 37) (R.1 35) (nI (R.1 1)))) 1 0 0) 38 (upd (R.2 38) (R.1 35) (nI (R.1 1 + 1)))) := h107
        refine gh_aload_n C dR_offer_82 rfl ?_
        refine rw_get C h107 fR_113 rfl dR_offer_83 ?_
        refine gh_aload_n C dR_offer_86 rfl ?_
        refine rw_get C h107 fR_189 rfl dR_offer_87 ?_
        refine gh_ti (nI (R.1 35)) rfl ?_
        refine gh_iconst C (-1) dR_offer_90 (by decide) ?_
        refine rw_ist C h107 39 60 ⟨rfl, rfl, rfl, by decide⟩ (R.1 35) rfl (by omega) dR_offer_91 (fun g108 h108 => ?_)
        have h108 : rQ g g108 y (ra (ra (mkR (ra (mkR (ra (ri R 0 0) 36 (upd (R.2 36) (R.1 35) (nI m))) 1 0 0) 37 (upd (R.2 37) (R.1 35) (nI (R.1 1)))) 1 0 0) 38 (upd (R.2 38) (R.1 35) (nI (R.1 1 + 1)))) 39 (upd (R.2 39) (R.1 35) (-1))) := h108
        refine gh_aload_n C dR_offer_92 rfl ?_
        refine gh_dup C dR_offer_93 rfl ?_
        refine rw_get C h108 fR_189 rfl dR_offer_94 ?_
        refine gh_ti (nI (R.1 35)) rfl ?_
        refine gh_iconst C 1 dR_offer_97 (by decide) ?_
        refine gh_iadd C dR_offer_98 ?_
        refine gh_ti (nI (R.1 35 + 1)) (nI_add (R.1 35) 1) ?_
        refine rw_put C h108 (R.1 35 + 1) rfl pR_189 (by decide) rfl (by decide) (fun _ => rfl) (fun _ => rfl) dR_offer_99 (fun g109 h109 => ?_)
        refine gh_aload_n C dR_offer_102 rfl ?_
        refine rw_get C h109 fR_189 rfl dR_offer_103 ?_
        refine gh_ti (nI (R.1 35 + 1)) rfl ?_
        refine gh_iconst C 1 dR_offer_106 (by decide) ?_
        refine gh_isub C dR_offer_107 ?_
        refine gh_ti (nI (R.1 35)) (nI_pred _) ?_
        refine gh_iret C hQ rfl dR_offer_108 ?_
        exact ⟨rfl, h109⟩
      · exact absurd c35 (by decide)
    · exact absurd ((nI_eq (by omega) (by omega)).mp (show nI (R.1 35) = nI 60 from c20)) (by omega)
  · exact absurd c7 (by decide)
def ofT (R : SR) (x : Int32) : Nat := if inn 16 x = true then (if R.1 35 = 60 then 2 else 0) else 1
set_option maxRecDepth 100000 in
set_option maxHeartbeats 4000000 in
theorem r_offerX (l : Launch) (d : gh_D) (g : gh_H) {y : Nat → Nat} {R : SR} (hR : rR g y R) (x : Int32) (hP : R.1 35 ≤ 60) (ht : ofT R x ≠ 0) : gh_C l d mR_offer (rr 1 0 0) [.ref (y 0), .int x] g (fun v g1 => v = some (.int 0) ∧ rQ g g1 y (ri R 0 (ofT R x))) := by
  refine gh_of [some (.ref (y 0)), some (.int x)] (by decide) rfl (Nat.le_of_ble_eq_true rfl) (by simp [Value.category]) (fun z C hQ => ?_)
  show gh_W l d z 0 [some (.ref (y 0)), some (.int x)] [] g 0 0
  have h0 := rQ.rf hR
  refine gh_aload_n C dR_offer_0 rfl ?_
  refine gh_iload_n C dR_offer_1 rfl ?_
  refine gh_bipush C 16 dR_offer_2 (by decide) ?_
  refine gh_callS C [.int x, .int 16] (r_inn l d _ 16 x) lR_264 wR_in sR_in rfl rfl (Nat.le_of_ble_eq_true rfl) ⟨Nat.le_of_ble_eq_true rfl, Nat.le_of_ble_eq_true rfl⟩ (Nat.le_of_ble_eq_true rfl) (Nat.le_of_ble_eq_true rfl) dR_offer_4 (fun v101 g101 k101 => ?_)
  obtain ⟨rfl, e101⟩ := k101
  subst g101
  refine gh_if_ne C 14 dR_offer_7 (by decide) (fun c7 => ?_) (fun c7 => ?_)
  ·
    have e7 : inn 16 x = true := by
      by_cases h : inn 16 x = true
      · exact h
      · rw [if_neg h] at c7; exact absurd rfl c7
    refine gh_aload_n C dR_offer_14 rfl ?_
    refine rw_get C h0 fR_189 rfl dR_offer_15 ?_
    refine gh_bipush C 60 dR_offer_18 (by decide) ?_
    refine gh_icmp_ne C 27 dR_offer_20 (by decide) (fun c20 => ?_) (fun c20 => ?_)
    · exact absurd (show ofT R x = 0 by unfold ofT; rw [if_pos e7]; exact if_neg (fun h => c20 (by rw [h]; rfl))) ht
    ·
      have hz : ofT R x = 2 := by unfold ofT; rw [if_pos e7]; exact if_pos ((nI_eq (by omega) (by omega)).mp (show nI (R.1 35) = nI 60 from c20))
      refine gh_iconst C 2 dR_offer_23 (by decide) ?_
      refine gh_goto C 28 dR_offer_24 (by decide) ?_
      refine rw_put C h0 (2) rfl pR_155 (by decide) rfl (by decide) (fun _ => rfl) (fun _ => rfl) dR_offer_28 (fun g102 h102 => ?_)
      refine gh_aload_n C dR_offer_31 rfl ?_
      refine rw_get C h102 fR_155 rfl dR_offer_32 ?_
      refine gh_ti (nI (2)) rfl ?_
      refine gh_if_le C 40 dR_offer_35 (by decide) (fun c35 => ?_) (fun c35 => ?_)
      · exact absurd c35 (by decide)
      ·
        refine gh_iconst C 0 dR_offer_38 (by decide) ?_
        refine gh_iret C hQ rfl dR_offer_39 ?_
        exact ⟨rfl, by rw [hz]; exact h102⟩
  ·
    have e7 : ¬ inn 16 x = true := fun h => by rw [if_pos h] at c7; exact absurd c7 (by decide)
    have hz : ofT R x = 1 := if_neg e7
    refine gh_iconst C 1 dR_offer_10 (by decide) ?_
    refine gh_goto C 28 dR_offer_11 (by decide) ?_
    refine rw_put C h0 (1) rfl pR_155 (by decide) rfl (by decide) (fun _ => rfl) (fun _ => rfl) dR_offer_28 (fun g103 h103 => ?_)
    refine gh_aload_n C dR_offer_31 rfl ?_
    refine rw_get C h103 fR_155 rfl dR_offer_32 ?_
    refine gh_ti (nI (1)) rfl ?_
    refine gh_if_le C 40 dR_offer_35 (by decide) (fun c35 => ?_) (fun c35 => ?_)
    · exact absurd c35 (by decide)
    ·
      refine gh_iconst C 0 dR_offer_38 (by decide) ?_
      refine gh_iret C hQ rfl dR_offer_39 ?_
      exact ⟨rfl, by rw [hz]; exact h103⟩
set_option maxRecDepth 100000 in
set_option maxHeartbeats 4000000 in
theorem r_add (l : Launch) (d : gh_D) (g : gh_H) {y : Nat → Nat} {R : SR} (hR : rR g y R) (x w : Int32) (hE : 1 ≤ R.1 12) (hW : R.1 42 ≤ 20) (ht : asT R x (if inn (R.1 35) w = true then 1 else 0) = 0) : gh_C l d mR_add (rr 2 0 0) [.ref (y 0), .int x, .int w] g (fun v g1 => v = some (.int (nI (R.1 42 + 1))) ∧ rQ g g1 y (prR (ri R 0 0) 0 x w)) := by
  refine gh_of [some (.ref (y 0)), some (.int x), some (.int w)] (by decide) rfl (Nat.le_of_ble_eq_true rfl) (by simp [Value.category]) (fun z C hQ => ?_)
  show gh_W l d z 0 [some (.ref (y 0)), some (.int x), some (.int w)] [] g 0 0
  have h0 := rQ.rf hR
  refine gh_aload_n C dR_add_0 rfl ?_
  refine gh_iload_n C dR_add_1 rfl ?_
  refine gh_iload_n C dR_add_2 rfl ?_
  refine gh_aload_n C dR_add_3 rfl ?_
  refine rw_get C h0 fR_189 rfl dR_add_4 ?_
  refine gh_callS C [.int w, .int (nI (R.1 35))] (r_inn l d _ (R.1 35) w) lR_264 wR_in sR_in rfl rfl (Nat.le_of_ble_eq_true rfl) ⟨Nat.le_of_ble_eq_true rfl, Nat.le_of_ble_eq_true rfl⟩ (Nat.le_of_ble_eq_true rfl) (Nat.le_of_ble_eq_true rfl) dR_add_7 (fun v101 g101 k101 => ?_)
  obtain ⟨rfl, e101⟩ := k101
  subst g101
  refine gh_callV C [.int x, .int (if inn (R.1 35) w = true then 1 else 0)] (r_isAsked l d _ h0.1 x (if inn (R.1 35) w = true then 1 else 0) hE hW) lR_270 wR_isAsked vR_isAsked h0.1.1 rfl rfl rfl (Nat.le_of_ble_eq_true rfl) ⟨Nat.le_of_ble_eq_true rfl, Nat.le_of_ble_eq_true rfl⟩ (Nat.le_of_ble_eq_true rfl) (Nat.le_of_ble_eq_true rfl) dR_add_10 (fun v102 g102 k102 => ?_)
  obtain ⟨rfl, h102⟩ := k102
  replace h102 := h0.tr h102
  rw [ht] at h102
  rw [if_pos ht]
  refine gh_if_eq C 26 dR_add_13 (by decide) (fun c13 => ?_) (fun c13 => ?_)
  · exact absurd c13 (by decide)
  ·
    refine gh_aload_n C dR_add_16 rfl ?_
    refine gh_iconst C 0 dR_add_17 (by decide) ?_
    refine gh_iload_n C dR_add_18 rfl ?_
    refine gh_iload_n C dR_add_19 rfl ?_
    have h20 : R.1 42 < 20 := by
      have := (asT_0 ht).2.2
      omega
    refine gh_callV C [.int 0, .int x, .int w] (r_propose l d _ h102.1 0 x w h20) lR_274 wR_propose vR_propose h102.1.1 rfl rfl rfl (Nat.le_of_ble_eq_true rfl) ⟨Nat.le_of_ble_eq_true rfl, Nat.le_of_ble_eq_true rfl⟩ (Nat.le_of_ble_eq_true rfl) (Nat.le_of_ble_eq_true rfl) dR_add_20 (fun v103 g103 k103 => ?_)
    obtain ⟨rfl, h103⟩ := k103
    replace h103 := h102.tr h103
    refine gh_goto C 27 dR_add_23 (by decide) ?_
    refine gh_iret C hQ rfl dR_add_27 ?_
    exact ⟨rfl, h103⟩
set_option maxRecDepth 100000 in
set_option maxHeartbeats 4000000 in
theorem r_addX (l : Launch) (d : gh_D) (g : gh_H) {y : Nat → Nat} {R : SR} (hR : rR g y R) (x w : Int32) (hE : 1 ≤ R.1 12) (hW : R.1 42 ≤ 20) (ht : asT R x (if inn (R.1 35) w = true then 1 else 0) ≠ 0) : gh_C l d mR_add (rr 2 0 0) [.ref (y 0), .int x, .int w] g (fun v g1 => v = some (.int 0) ∧ rQ g g1 y (ri R 0 (asT R x (if inn (R.1 35) w = true then 1 else 0)))) := by
  refine gh_of [some (.ref (y 0)), some (.int x), some (.int w)] (by decide) rfl (Nat.le_of_ble_eq_true rfl) (by simp [Value.category]) (fun z C hQ => ?_)
  show gh_W l d z 0 [some (.ref (y 0)), some (.int x), some (.int w)] [] g 0 0
  have h0 := rQ.rf hR
  refine gh_aload_n C dR_add_0 rfl ?_
  refine gh_iload_n C dR_add_1 rfl ?_
  refine gh_iload_n C dR_add_2 rfl ?_
  refine gh_aload_n C dR_add_3 rfl ?_
  refine rw_get C h0 fR_189 rfl dR_add_4 ?_
  refine gh_callS C [.int w, .int (nI (R.1 35))] (r_inn l d _ (R.1 35) w) lR_264 wR_in sR_in rfl rfl (Nat.le_of_ble_eq_true rfl) ⟨Nat.le_of_ble_eq_true rfl, Nat.le_of_ble_eq_true rfl⟩ (Nat.le_of_ble_eq_true rfl) (Nat.le_of_ble_eq_true rfl) dR_add_7 (fun v101 g101 k101 => ?_)
  obtain ⟨rfl, e101⟩ := k101
  subst g101
  refine gh_callV C [.int x, .int (if inn (R.1 35) w = true then 1 else 0)] (r_isAsked l d _ h0.1 x (if inn (R.1 35) w = true then 1 else 0) hE hW) lR_270 wR_isAsked vR_isAsked h0.1.1 rfl rfl rfl (Nat.le_of_ble_eq_true rfl) ⟨Nat.le_of_ble_eq_true rfl, Nat.le_of_ble_eq_true rfl⟩ (Nat.le_of_ble_eq_true rfl) (Nat.le_of_ble_eq_true rfl) dR_add_10 (fun v102 g102 k102 => ?_)
  obtain ⟨rfl, h102⟩ := k102
  replace h102 := h0.tr h102
  rw [if_neg ht]
  refine gh_if_eq C 26 dR_add_13 (by decide) (fun c13 => ?_) (fun c13 => ?_)
  ·
    refine gh_iconst C 0 dR_add_26 (by decide) ?_
    refine gh_iret C hQ rfl dR_add_27 ?_
    exact ⟨rfl, h102⟩
  · exact absurd rfl c13
set_option maxRecDepth 100000 in
set_option maxHeartbeats 4000000 in
theorem r_remove (l : Launch) (d : gh_D) (g : gh_H) {y : Nat → Nat} {R : SR} (hR : rR g y R) (x w : Int32) (hE : 1 ≤ R.1 12) (hW : R.1 42 ≤ 20) (ht : asT R x (if inn 16 w = true then 1 else 0) = 0) : gh_C l d mR_remove (rr 2 0 0) [.ref (y 0), .int x, .int w] g (fun v g1 => v = some (.int (nI (R.1 42 + 1))) ∧ rQ g g1 y (prR (ri R 0 0) 1 x w)) := by
  refine gh_of [some (.ref (y 0)), some (.int x), some (.int w)] (by decide) rfl (Nat.le_of_ble_eq_true rfl) (by simp [Value.category]) (fun z C hQ => ?_)
  show gh_W l d z 0 [some (.ref (y 0)), some (.int x), some (.int w)] [] g 0 0
  have h0 := rQ.rf hR
  refine gh_aload_n C dR_remove_0 rfl ?_
  refine gh_iload_n C dR_remove_1 rfl ?_
  refine gh_iload_n C dR_remove_2 rfl ?_
  refine gh_bipush C 16 dR_remove_3 (by decide) ?_
  refine gh_callS C [.int w, .int 16] (r_inn l d _ 16 w) lR_264 wR_in sR_in rfl rfl (Nat.le_of_ble_eq_true rfl) ⟨Nat.le_of_ble_eq_true rfl, Nat.le_of_ble_eq_true rfl⟩ (Nat.le_of_ble_eq_true rfl) (Nat.le_of_ble_eq_true rfl) dR_remove_5 (fun v101 g101 k101 => ?_)
  obtain ⟨rfl, e101⟩ := k101
  subst g101
  refine gh_callV C [.int x, .int (if inn 16 w = true then 1 else 0)] (r_isAsked l d _ h0.1 x (if inn 16 w = true then 1 else 0) hE hW) lR_270 wR_isAsked vR_isAsked h0.1.1 rfl rfl rfl (Nat.le_of_ble_eq_true rfl) ⟨Nat.le_of_ble_eq_true rfl, Nat.le_of_ble_eq_true rfl⟩ (Nat.le_of_ble_eq_true rfl) (Nat.le_of_ble_eq_true rfl) dR_remove_8 (fun v102 g102 k102 => ?_)
  obtain ⟨rfl, h102⟩ := k102
  replace h102 := h0.tr h102
  rw [ht] at h102
  rw [if_pos ht]
  refine gh_if_eq C 24 dR_remove_11 (by decide) (fun c11 => ?_) (fun c11 => ?_)
  · exact absurd c11 (by decide)
  ·
    refine gh_aload_n C dR_remove_14 rfl ?_
    refine gh_iconst C 1 dR_remove_15 (by decide) ?_
    refine gh_iload_n C dR_remove_16 rfl ?_
    refine gh_iload_n C dR_remove_17 rfl ?_
    have h20 : R.1 42 < 20 := by
      have := (asT_0 ht).2.2
      omega
    refine gh_callV C [.int 1, .int x, .int w] (r_propose l d _ h102.1 1 x w h20) lR_274 wR_propose vR_propose h102.1.1 rfl rfl rfl (Nat.le_of_ble_eq_true rfl) ⟨Nat.le_of_ble_eq_true rfl, Nat.le_of_ble_eq_true rfl⟩ (Nat.le_of_ble_eq_true rfl) (Nat.le_of_ble_eq_true rfl) dR_remove_18 (fun v103 g103 k103 => ?_)
    obtain ⟨rfl, h103⟩ := k103
    replace h103 := h102.tr h103
    refine gh_goto C 25 dR_remove_21 (by decide) ?_
    refine gh_iret C hQ rfl dR_remove_25 ?_
    exact ⟨rfl, h103⟩
set_option maxRecDepth 100000 in
set_option maxHeartbeats 4000000 in
theorem r_removeX (l : Launch) (d : gh_D) (g : gh_H) {y : Nat → Nat} {R : SR} (hR : rR g y R) (x w : Int32) (hE : 1 ≤ R.1 12) (hW : R.1 42 ≤ 20) (ht : asT R x (if inn 16 w = true then 1 else 0) ≠ 0) : gh_C l d mR_remove (rr 2 0 0) [.ref (y 0), .int x, .int w] g (fun v g1 => v = some (.int 0) ∧ rQ g g1 y (ri R 0 (asT R x (if inn 16 w = true then 1 else 0)))) := by
  refine gh_of [some (.ref (y 0)), some (.int x), some (.int w)] (by decide) rfl (Nat.le_of_ble_eq_true rfl) (by simp [Value.category]) (fun z C hQ => ?_)
  show gh_W l d z 0 [some (.ref (y 0)), some (.int x), some (.int w)] [] g 0 0
  have h0 := rQ.rf hR
  refine gh_aload_n C dR_remove_0 rfl ?_
  refine gh_iload_n C dR_remove_1 rfl ?_
  refine gh_iload_n C dR_remove_2 rfl ?_
  refine gh_bipush C 16 dR_remove_3 (by decide) ?_
  refine gh_callS C [.int w, .int 16] (r_inn l d _ 16 w) lR_264 wR_in sR_in rfl rfl (Nat.le_of_ble_eq_true rfl) ⟨Nat.le_of_ble_eq_true rfl, Nat.le_of_ble_eq_true rfl⟩ (Nat.le_of_ble_eq_true rfl) (Nat.le_of_ble_eq_true rfl) dR_remove_5 (fun v101 g101 k101 => ?_)
  obtain ⟨rfl, e101⟩ := k101
  subst g101
  refine gh_callV C [.int x, .int (if inn 16 w = true then 1 else 0)] (r_isAsked l d _ h0.1 x (if inn 16 w = true then 1 else 0) hE hW) lR_270 wR_isAsked vR_isAsked h0.1.1 rfl rfl rfl (Nat.le_of_ble_eq_true rfl) ⟨Nat.le_of_ble_eq_true rfl, Nat.le_of_ble_eq_true rfl⟩ (Nat.le_of_ble_eq_true rfl) (Nat.le_of_ble_eq_true rfl) dR_remove_8 (fun v102 g102 k102 => ?_)
  obtain ⟨rfl, h102⟩ := k102
  replace h102 := h0.tr h102
  rw [if_neg ht]
  refine gh_if_eq C 24 dR_remove_11 (by decide) (fun c11 => ?_) (fun c11 => ?_)
  ·
    refine gh_iconst C 0 dR_remove_24 (by decide) ?_
    refine gh_iret C hQ rfl dR_remove_25 ?_
    exact ⟨rfl, h102⟩
  · exact absurd rfl c11
set_option maxRecDepth 100000 in
set_option maxHeartbeats 4000000 in
theorem r_update (l : Launch) (d : gh_D) (g : gh_H) {y : Nat → Nat} {R : SR} (hR : rR g y R) (m uc : Nat) (hm : m < 16) (hE : 1 ≤ R.1 12) (hW : R.1 42 < 20) (hN : R.1 1 < 2600) (huc : R.2 31 m = nI uc) (hu20 : uc < 20) (hl : latR R m = true) : gh_C l d mR_update (rr 2 0 0) [.ref (y 0), .int (nI m)] g (fun v g1 => v = some (.int (nI (R.1 42 + 1))) ∧ rQ g g1 y (prR (ukR (ri R 0 0) m uc) 2 (nI m) (nI (R.1 1)))) := by
  refine gh_of [some (.ref (y 0)), some (.int (nI m)), none] (by decide) rfl (Nat.le_of_ble_eq_true rfl) (by simp [Value.category]) (fun z C hQ => ?_)
  show gh_W l d z 0 [some (.ref (y 0)), some (.int (nI m)), none] [] g 0 0
  have h0 := rQ.rf hR
  refine gh_aload_n C dR_update_0 rfl ?_
  refine gh_iload_n C dR_update_1 rfl ?_
  refine gh_iconst C 1 dR_update_2 (by decide) ?_
  have ht : asT R (nI m) 1 = 0 := by
    unfold asT
    rw [if_pos ⟨inn_n hm (by decide), by decide⟩, nI_clamp (by omega)]
    exact if_pos ⟨hl, by omega⟩
  refine gh_callV C [.int (nI m), .int 1] (r_isAsked l d _ h0.1 (nI m) 1 hE (by omega)) lR_270 wR_isAsked vR_isAsked h0.1.1 rfl rfl rfl (Nat.le_of_ble_eq_true rfl) ⟨Nat.le_of_ble_eq_true rfl, Nat.le_of_ble_eq_true rfl⟩ (Nat.le_of_ble_eq_true rfl) (Nat.le_of_ble_eq_true rfl) dR_update_3 (fun v101 g101 k101 => ?_)
  obtain ⟨rfl, h101⟩ := k101
  replace h101 := h0.tr h101
  rw [ht] at h101
  rw [if_pos ht]
  refine gh_if_ne C 11 dR_update_6 (by decide) (fun c6 => ?_) (fun c6 => ?_)
  ·
    refine gh_aload_n C dR_update_11 rfl ?_
    refine gh_iconst C 1 dR_update_12 (by decide) ?_
    refine gh_iconst C 0 dR_update_13 (by decide) ?_
    refine gh_iconst C 0 dR_update_14 (by decide) ?_
    refine gh_callV C [.int 1, .int 0, .int 0] (r_make l d _ h101.1 1 0 0 hN) lR_143 wR_make vR_make h101.1.1 rfl rfl rfl (Nat.le_of_ble_eq_true rfl) ⟨Nat.le_of_ble_eq_true rfl, Nat.le_of_ble_eq_true rfl⟩ (Nat.le_of_ble_eq_true rfl) (Nat.le_of_ble_eq_true rfl) dR_update_15 (fun v102 g102 k102 => ?_)
    obtain ⟨rfl, h102⟩ := k102
    replace h102 := h101.tr h102
    skip
    refine gh_istore_n C [some (.ref (y 0)), some (.int (nI m)), some (.int (nI (R.1 1)))] dR_update_18 rfl (Nat.le_of_ble_eq_true rfl) ?_
    refine gh_aload_n C dR_update_19 rfl ?_
    refine rw_get C h102 fR_101 rfl dR_update_20 ?_
    refine gh_bipush C 20 dR_update_23 (by decide) ?_
    refine gh_iload_n C dR_update_25 rfl ?_
    refine gh_imul C dR_update_26 ?_
    refine gh_ti (nI (20 * m)) (pk_mul 20 m) ?_
    refine gh_aload_n C dR_update_27 rfl ?_
    refine rw_get C h102 fR_92 rfl dR_update_28 ?_
    refine gh_iload_n C dR_update_31 rfl ?_
    refine rw_ild C h102 31 16 ⟨rfl, rfl, rfl, by decide⟩ (m) rfl (by omega) dR_update_32 ?_
    refine gh_ti (nI uc) huc ?_
    refine gh_iadd C dR_update_33 ?_
    refine gh_ti (nI (20 * m + uc)) (nI_add (20 * m) uc) ?_
    refine gh_iload_n C dR_update_34 rfl ?_
    refine rw_ist C h102 34 320 ⟨rfl, rfl, rfl, by decide⟩ (20 * m + uc) rfl (by omega) dR_update_35 (fun g103 h103 => ?_)
    have h103 : rQ g g103 y (ra (mkR (ri R 0 0) 1 0 0) 34 (upd (R.2 34) (20 * m + uc) (nI (R.1 1)))) := h103
    refine gh_aload_n C dR_update_36 rfl ?_
    refine rw_get C h103 fR_92 rfl dR_update_37 ?_
    refine gh_iload_n C dR_update_40 rfl ?_
    refine gh_dup2 C dR_update_41 rfl rfl ?_
    refine rw_ild C h103 31 16 ⟨rfl, rfl, rfl, by decide⟩ (m) rfl (by omega) dR_update_42 ?_
    refine gh_ti (nI uc) huc ?_
    refine gh_iconst C 1 dR_update_43 (by decide) ?_
    refine gh_iadd C dR_update_44 ?_
    refine gh_ti (nI (uc + 1)) (nI_add uc 1) ?_
    refine rw_ist C h103 31 16 ⟨rfl, rfl, rfl, by decide⟩ (m) rfl (by omega) dR_update_45 (fun g104 h104 => ?_)
    have h104 : rQ g g104 y (ra (ra (mkR (ri R 0 0) 1 0 0) 34 (upd (R.2 34) (20 * m + uc) (nI (R.1 1)))) 31 (upd (R.2 31) m (nI (uc + 1)))) := h104
    refine gh_aload_n C dR_update_46 rfl ?_
    refine gh_iconst C 2 dR_update_47 (by decide) ?_
    refine gh_iload_n C dR_update_48 rfl ?_
    refine gh_iload_n C dR_update_49 rfl ?_
    refine gh_callV C [.int 2, .int (nI m), .int (nI (R.1 1))] (r_propose l d _ h104.1 2 (nI m) (nI (R.1 1)) hW) lR_274 wR_propose vR_propose h104.1.1 rfl rfl rfl (Nat.le_of_ble_eq_true rfl) ⟨Nat.le_of_ble_eq_true rfl, Nat.le_of_ble_eq_true rfl⟩ (Nat.le_of_ble_eq_true rfl) (Nat.le_of_ble_eq_true rfl) dR_update_50 (fun v105 g105 k105 => ?_)
    obtain ⟨rfl, h105⟩ := k105
    replace h105 := h104.tr h105
    refine gh_iret C hQ rfl dR_update_53 ?_
    exact ⟨rfl, h105⟩
  · exact absurd c6 (by decide)
set_option maxRecDepth 100000 in
set_option maxHeartbeats 4000000 in
theorem r_updateX (l : Launch) (d : gh_D) (g : gh_H) {y : Nat → Nat} {R : SR} (hR : rR g y R) (x : Int32) (hE : 1 ≤ R.1 12) (hW : R.1 42 ≤ 20) (ht : asT R x 1 ≠ 0) : gh_C l d mR_update (rr 2 0 0) [.ref (y 0), .int x] g (fun v g1 => v = some (.int 0) ∧ rQ g g1 y (ri R 0 (asT R x 1))) := by
  refine gh_of [some (.ref (y 0)), some (.int x), none] (by decide) rfl (Nat.le_of_ble_eq_true rfl) (by simp [Value.category]) (fun z C hQ => ?_)
  show gh_W l d z 0 [some (.ref (y 0)), some (.int x), none] [] g 0 0
  have h0 := rQ.rf hR
  refine gh_aload_n C dR_update_0 rfl ?_
  refine gh_iload_n C dR_update_1 rfl ?_
  refine gh_iconst C 1 dR_update_2 (by decide) ?_
  refine gh_callV C [.int x, .int 1] (r_isAsked l d _ h0.1 x 1 hE hW) lR_270 wR_isAsked vR_isAsked h0.1.1 rfl rfl rfl (Nat.le_of_ble_eq_true rfl) ⟨Nat.le_of_ble_eq_true rfl, Nat.le_of_ble_eq_true rfl⟩ (Nat.le_of_ble_eq_true rfl) (Nat.le_of_ble_eq_true rfl) dR_update_3 (fun v101 g101 k101 => ?_)
  obtain ⟨rfl, h101⟩ := k101
  replace h101 := h0.tr h101
  rw [if_neg ht]
  refine gh_if_ne C 11 dR_update_6 (by decide) (fun c6 => ?_) (fun c6 => ?_)
  · exact absurd rfl c6
  ·
    refine gh_iconst C 0 dR_update_9 (by decide) ?_
    refine gh_iret C hQ rfl dR_update_10 ?_
    exact ⟨rfl, h101⟩
