/-! advance, join, follow -/
theorem hgt_pn : ∀ h, h ≤ 4 → ∀ a, a < 16 → hgt (pn a h) = h := by decide +kernel
def ad0 (R : SR) (m e a : Nat) : SR := ra (ra (ra R 27 (upd (R.2 27) m (nI e))) 31 (upd (R.2 31) m 0)) 29 (upd (R.2 29) m (R.2 22 (31 * e + 2 * a)))
def adK (R : SR) (m e a D : Nat) : SR := kpR (ad0 R m e a) m e a D 31
def adR (R : SR) (m e a D : Nat) (b : Int32) : SR := if b ≠ 0 ∧ 0 < D then tlR (adK R m e a D) m e a 1 D else adK R m e a D
set_option maxRecDepth 100000 in
set_option maxHeartbeats 4000000 in
theorem r_advance (l : Launch) (d : gh_D) (g : gh_H) {y : Nat → Nat} {R : SR} (hR : rR g y R) (m e a D : Nat) (b : Int32) (hm : m < 16) (he : e < 60) (ha : a < 16) (hD : R.2 13 e = nI D) (hD4 : D ≤ 4) (haD : 2 * a < 31) (hL : R.2 28 m = nI a) : gh_C l d mR_advance (rr 2 0 0) [.ref (y 0), .int (nI m), .int (nI e), .int b] g (fun v g1 => v = none ∧ rQ g g1 y (adR R m e a D b)) := by
  refine gh_of [some (.ref (y 0)), some (.int (nI m)), some (.int (nI e)), some (.int b)] (by decide) rfl (Nat.le_of_ble_eq_true rfl) (by simp [Value.category]) (fun z C hQ => ?_)
  show gh_W l d z 0 [some (.ref (y 0)), some (.int (nI m)), some (.int (nI e)), some (.int b)] [] g 0 0
  have h0 := rQ.rf hR
  refine gh_aload_n C dR_advance_0 rfl ?_
  refine rw_get C h0 fR_80 rfl dR_advance_1 ?_
  refine gh_iload_n C dR_advance_4 rfl ?_
  refine gh_iload_n C dR_advance_5 rfl ?_
  refine rw_ist C h0 27 16 ⟨rfl, rfl, rfl, by decide⟩ (m) rfl (by omega) dR_advance_6 (fun g101 h101 => ?_)
  have h101 : rQ g g101 y (ra R 27 (upd (R.2 27) m (nI e))) := h101
  refine gh_aload_n C dR_advance_7 rfl ?_
  refine rw_get C h101 fR_92 rfl dR_advance_8 ?_
  refine gh_iload_n C dR_advance_11 rfl ?_
  refine gh_iconst C 0 dR_advance_12 (by decide) ?_
  refine rw_ist C h101 31 16 ⟨rfl, rfl, rfl, by decide⟩ (m) rfl (by omega) dR_advance_13 (fun g102 h102 => ?_)
  have h102 : rQ g g102 y (ra (ra R 27 (upd (R.2 27) m (nI e))) 31 (upd (R.2 31) m 0)) := h102
  refine gh_aload_n C dR_advance_14 rfl ?_
  refine rw_get C h102 fR_86 rfl dR_advance_15 ?_
  refine gh_iload_n C dR_advance_18 rfl ?_
  refine gh_aload_n C dR_advance_19 rfl ?_
  refine rw_get C h102 fR_65 rfl dR_advance_20 ?_
  refine gh_bipush C 31 dR_advance_23 (by decide) ?_
  refine gh_iload_n C dR_advance_25 rfl ?_
  refine gh_imul C dR_advance_26 ?_
  refine gh_ti (nI (31 * e)) (pk_mul 31 e) ?_
  refine gh_iconst C 2 dR_advance_27 (by decide) ?_
  refine gh_aload_n C dR_advance_28 rfl ?_
  refine rw_get C h102 fR_83 rfl dR_advance_29 ?_
  refine gh_iload_n C dR_advance_32 rfl ?_
  refine rw_ild C h102 28 16 ⟨rfl, rfl, rfl, by decide⟩ (m) rfl (by omega) dR_advance_33 ?_
  refine gh_ti (nI a) hL ?_
  refine gh_imul C dR_advance_34 ?_
  refine gh_ti (nI (2 * a)) (pk_mul 2 a) ?_
  refine gh_iadd C dR_advance_35 ?_
  refine gh_ti (nI (31 * e + 2 * a)) (nI_add (31 * e) (2 * a)) ?_
  refine rw_ild C h102 22 1860 ⟨rfl, rfl, rfl, by decide⟩ (31 * e + 2 * a) rfl (by omega) dR_advance_36 ?_
  refine gh_ti (R.2 22 (31 * e + 2 * a)) rfl ?_
  refine rw_ist C h102 29 16 ⟨rfl, rfl, rfl, by decide⟩ (m) rfl (by omega) dR_advance_37 (fun g103 h103 => ?_)
  have h103 : rQ g g103 y (ra (ra (ra R 27 (upd (R.2 27) m (nI e))) 31 (upd (R.2 31) m 0)) 29 (upd (R.2 29) m (R.2 22 (31 * e + 2 * a)))) := h103
  refine gh_aload_n C dR_advance_38 rfl ?_
  refine gh_iload_n C dR_advance_39 rfl ?_
  refine gh_iload_n C dR_advance_40 rfl ?_
  refine gh_callV C [.int (nI m), .int (nI e)] (r_keep l d _ h103.1 m e a D hm he ha hD hD4 hL) lR_230 wR_keep vR_keep h103.1.1 rfl rfl rfl (Nat.le_of_ble_eq_true rfl) ⟨Nat.le_of_ble_eq_true rfl, Nat.le_of_ble_eq_true rfl⟩ (Nat.le_of_ble_eq_true rfl) (Nat.le_of_ble_eq_true rfl) dR_advance_41 (fun v104 g104 k104 => ?_)
  obtain ⟨rfl, h104⟩ := k104
  replace h104 := h103.tr h104
  refine gh_iload_n C dR_advance_44 rfl ?_
  refine gh_if_eq C 73 dR_advance_45 (by decide) (fun c45 => ?_) (fun c45 => ?_)
  ·
    have hz : adR R m e a D b = adK R m e a D := if_neg (fun h => h.1 c45)
    refine gh_vret C hQ rfl dR_advance_73 ?_
    exact ⟨rfl, by rw [hz]; exact h104⟩
  ·
    refine gh_aload_n C dR_advance_48 rfl ?_
    refine rw_get C h104 fR_38 rfl dR_advance_49 ?_
    refine gh_iload_n C dR_advance_52 rfl ?_
    refine rw_ild C h104 13 60 ⟨rfl, rfl, rfl, by decide⟩ (e) rfl (by omega) dR_advance_53 ?_
    refine gh_ti (nI D) hD ?_
    refine gh_if_le C 73 dR_advance_54 (by decide) (fun c54 => ?_) (fun c54 => ?_)
    ·
      have hz : adR R m e a D b = adK R m e a D := if_neg (fun h => absurd (show nI D ≤ nI 0 from c54) (nI_ge h.2 (by omega)))
      refine gh_vret C hQ rfl dR_advance_73 ?_
      exact ⟨rfl, by rw [hz]; exact h104⟩
    ·
      have hD0 : 0 < D := by
        rcases Nat.eq_zero_or_pos D with h | h
        · exact absurd (show nI D ≤ 0 by rw [h]; decide) c54
        · exact h
      have hz : adR R m e a D b = tlR (adK R m e a D) m e a 1 D := if_pos ⟨c45, hD0⟩
      have hg1 := hgt_pn 1 (by decide) a ha
      have hp1 := pn_lt 1 (by decide) a ha
      refine gh_aload_n C dR_advance_57 rfl ?_
      refine gh_iload_n C dR_advance_58 rfl ?_
      refine gh_iload_n C dR_advance_59 rfl ?_
      refine gh_aload_n C dR_advance_60 rfl ?_
      refine rw_get C h104 fR_83 rfl dR_advance_61 ?_
      refine gh_iload_n C dR_advance_64 rfl ?_
      refine rw_ild C h104 28 16 ⟨rfl, rfl, rfl, by decide⟩ (m) rfl (by omega) dR_advance_65 ?_
      refine gh_ti (nI a) hL ?_
      refine gh_iconst C 1 dR_advance_66 (by decide) ?_
      refine gh_callS C [.int (nI a), .int 1] (r_above l d _ a 1 ha (by decide)) lR_168 wR_above sR_above rfl rfl (Nat.le_of_ble_eq_true rfl) ⟨Nat.le_of_ble_eq_true rfl, Nat.le_of_ble_eq_true rfl⟩ (Nat.le_of_ble_eq_true rfl) (Nat.le_of_ble_eq_true rfl) dR_advance_67 (fun v105 g105 k105 => ?_)
      obtain ⟨rfl, e105⟩ := k105
      subst g105
      refine gh_callV C [.int (nI m), .int (nI e), .int (nI (pn a 1))] (r_tell l d _ h104.1 m e a D (pn a 1) hm he ha hD hD4 hL hp1 (by omega)) lR_233 wR_tell vR_tell h104.1.1 rfl rfl rfl (Nat.le_of_ble_eq_true rfl) ⟨Nat.le_of_ble_eq_true rfl, Nat.le_of_ble_eq_true rfl⟩ (Nat.le_of_ble_eq_true rfl) (Nat.le_of_ble_eq_true rfl) dR_advance_70 (fun v106 g106 k106 => ?_)
      obtain ⟨rfl, h106⟩ := k106
      replace h106 := h104.tr h106
      rw [hg1, show D + 1 - 1 = D by omega] at h106
      refine gh_vret C hQ rfl dR_advance_73 ?_
      exact ⟨rfl, by rw [hz]; exact h106⟩
def jn0 (R : SR) (m p e a : Nat) : SR := ra (ra (ra (ra (ra (lvR R m) 41 (upd (R.2 41) p 1)) 27 (upd (upd (R.2 27) m (-1)) m (nI e))) 28 (upd (upd (R.2 28) m (-1)) m (nI a))) 29 (upd (upd (R.2 29) m (-1)) m (R.2 38 p))) 32 (upd (upd (R.2 32) m 0) m 1)
def tlQ (R : SR) (m e a D : Nat) (w : Option Nat) : SR := match w with
  | none => R
  | some h => tlR R m e a (h + 1) (D - h)
def jnR (R : SR) (m p e a D : Nat) : SR := tlQ (jn0 R m p e a) m e a D (if R.2 21 e = 0 then none else lowc D (R.2 16 e) a)
set_option maxRecDepth 100000 in
set_option maxHeartbeats 4000000 in
theorem r_join (l : Launch) (d : gh_D) (g : gh_H) {y : Nat → Nat} {R : SR} (hR : rR g y R) (m p e a D : Nat) (hm : m < 16) (hp : p < 60) (he : e < 60) (ha : a < 16) (hD : R.2 13 e = nI D) (hD4 : D ≤ 4) (h39 : R.2 39 p = nI e) (h40 : R.2 40 p = nI a) : gh_C l d mR_join (rr 2 0 0) [.ref (y 0), .int (nI m), .int (nI p)] g (fun v g1 => v = none ∧ rQ g g1 y (jnR R m p e a D)) := by
  refine gh_of [some (.ref (y 0)), some (.int (nI m)), some (.int (nI p)), none, none] (by decide) rfl (Nat.le_of_ble_eq_true rfl) (by simp [Value.category]) (fun z C hQ => ?_)
  show gh_W l d z 0 [some (.ref (y 0)), some (.int (nI m)), some (.int (nI p)), none, none] [] g 0 0
  have h0 := rQ.rf hR
  refine gh_aload_n C dR_join_0 rfl ?_
  refine rw_get C h0 fR_113 rfl dR_join_1 ?_
  refine gh_iload_n C dR_join_4 rfl ?_
  refine rw_ild C h0 39 60 ⟨rfl, rfl, rfl, by decide⟩ (p) rfl (by omega) dR_join_5 ?_
  refine gh_ti (nI e) h39 ?_
  refine gh_istore_n C [some (.ref (y 0)), some (.int (nI m)), some (.int (nI p)), some (.int (nI e)), none] dR_join_6 rfl (Nat.le_of_ble_eq_true rfl) ?_
  refine gh_aload_n C dR_join_7 rfl ?_
  refine gh_iload_n C dR_join_8 rfl ?_
  refine gh_callV C [.int (nI m)] (r_leave l d _ h0.1 m hm) lR_147 wR_leave vR_leave h0.1.1 rfl rfl rfl (Nat.le_of_ble_eq_true rfl) ⟨Nat.le_of_ble_eq_true rfl, Nat.le_of_ble_eq_true rfl⟩ (Nat.le_of_ble_eq_true rfl) (Nat.le_of_ble_eq_true rfl) dR_join_9 (fun v101 g101 k101 => ?_)
  obtain ⟨rfl, h101⟩ := k101
  replace h101 := h0.tr h101
  skip
  refine gh_aload_n C dR_join_12 rfl ?_
  refine rw_get C h101 fR_119 rfl dR_join_13 ?_
  refine gh_iload_n C dR_join_16 rfl ?_
  refine gh_iconst C 1 dR_join_17 (by decide) ?_
  refine rw_zst C h101 41 60 ⟨rfl, rfl, rfl, by decide⟩ (p) rfl (by omega) rfl dR_join_18 (fun g102 h102 => ?_)
  have h102 : rQ g g102 y (ra (lvR R m) 41 (upd (R.2 41) p 1)) := h102
  refine gh_aload_n C dR_join_19 rfl ?_
  refine rw_get C h102 fR_80 rfl dR_join_20 ?_
  refine gh_iload_n C dR_join_23 rfl ?_
  refine gh_iload_n C dR_join_24 rfl ?_
  refine rw_ist C h102 27 16 ⟨rfl, rfl, rfl, by decide⟩ (m) rfl (by omega) dR_join_25 (fun g103 h103 => ?_)
  have h103 : rQ g g103 y (ra (ra (lvR R m) 41 (upd (R.2 41) p 1)) 27 (upd (upd (R.2 27) m (-1)) m (nI e))) := h103
  refine gh_aload_n C dR_join_26 rfl ?_
  refine rw_get C h103 fR_83 rfl dR_join_27 ?_
  refine gh_iload_n C dR_join_30 rfl ?_
  refine gh_aload_n C dR_join_31 rfl ?_
  refine rw_get C h103 fR_116 rfl dR_join_32 ?_
  refine gh_iload_n C dR_join_35 rfl ?_
  refine rw_ild C h103 40 60 ⟨rfl, rfl, rfl, by decide⟩ (p) rfl (by omega) dR_join_36 ?_
  refine gh_ti (nI a) h40 ?_
  refine rw_ist C h103 28 16 ⟨rfl, rfl, rfl, by decide⟩ (m) rfl (by omega) dR_join_37 (fun g104 h104 => ?_)
  have h104 : rQ g g104 y (ra (ra (ra (lvR R m) 41 (upd (R.2 41) p 1)) 27 (upd (upd (R.2 27) m (-1)) m (nI e))) 28 (upd (upd (R.2 28) m (-1)) m (nI a))) := h104
  refine gh_aload_n C dR_join_38 rfl ?_
  refine rw_get C h104 fR_86 rfl dR_join_39 ?_
  refine gh_iload_n C dR_join_42 rfl ?_
  refine gh_aload_n C dR_join_43 rfl ?_
  refine rw_get C h104 fR_110 rfl dR_join_44 ?_
  refine gh_iload_n C dR_join_47 rfl ?_
  refine rw_ild C h104 38 60 ⟨rfl, rfl, rfl, by decide⟩ (p) rfl (by omega) dR_join_48 ?_
  refine gh_ti (R.2 38 p) rfl ?_
  refine rw_ist C h104 29 16 ⟨rfl, rfl, rfl, by decide⟩ (m) rfl (by omega) dR_join_49 (fun g105 h105 => ?_)
  have h105 : rQ g g105 y (ra (ra (ra (ra (lvR R m) 41 (upd (R.2 41) p 1)) 27 (upd (upd (R.2 27) m (-1)) m (nI e))) 28 (upd (upd (R.2 28) m (-1)) m (nI a))) 29 (upd (upd (R.2 29) m (-1)) m (R.2 38 p))) := h105
  refine gh_aload_n C dR_join_50 rfl ?_
  refine rw_get C h105 fR_95 rfl dR_join_51 ?_
  refine gh_iload_n C dR_join_54 rfl ?_
  refine gh_iconst C 1 dR_join_55 (by decide) ?_
  refine rw_zst C h105 32 16 ⟨rfl, rfl, rfl, by decide⟩ (m) rfl (by omega) rfl dR_join_56 (fun g106 h106 => ?_)
  have h106 : rQ g g106 y (ra (ra (ra (ra (ra (lvR R m) 41 (upd (R.2 41) p 1)) 27 (upd (upd (R.2 27) m (-1)) m (nI e))) 28 (upd (upd (R.2 28) m (-1)) m (nI a))) 29 (upd (upd (R.2 29) m (-1)) m (R.2 38 p))) 32 (upd (upd (R.2 32) m 0) m 1)) := h106
  refine gh_aload_n C dR_join_57 rfl ?_
  refine gh_iload_n C dR_join_58 rfl ?_
  refine gh_aload_n C dR_join_59 rfl ?_
  refine rw_get C h106 fR_83 rfl dR_join_60 ?_
  refine gh_iload_n C dR_join_63 rfl ?_
  refine rw_ild C h106 28 16 ⟨rfl, rfl, rfl, by decide⟩ (m) rfl (by omega) dR_join_64 ?_
  refine gh_ti (nI a) (by simp [ra, upd]) ?_
  have hj : rQ g g106 y (jn0 R m p e a) := h106
  have hD1 : (jn0 R m p e a).2 13 e = nI D := hD
  have hL1 : (jn0 R m p e a).2 28 m = nI a := by simp [jn0, ra, upd]
  refine gh_callV C [.int (nI e), .int (nI a)] (r_meeting l d _ hj.1 e a D he ha hD1 hD4) lR_227 wR_meeting vR_meeting hj.1.1 rfl rfl rfl (Nat.le_of_ble_eq_true rfl) ⟨Nat.le_of_ble_eq_true rfl, Nat.le_of_ble_eq_true rfl⟩ (Nat.le_of_ble_eq_true rfl) (Nat.le_of_ble_eq_true rfl) dR_join_65 (fun v107 g107 k107 => ?_)
  obtain ⟨rfl, e107⟩ := k107
  subst g107
  refine gh_istore C [some (.ref (y 0)), some (.int (nI m)), some (.int (nI p)), some (.int (nI e)), some (.int (oN a (lowc D (R.2 16 e) a)))] dR_join_68 rfl (Nat.le_of_ble_eq_true rfl) ?_
  refine gh_aload_n C dR_join_70 rfl ?_
  refine rw_get C hj fR_62 rfl dR_join_71 ?_
  refine gh_iload_n C dR_join_74 rfl ?_
  refine rw_zld C hj 21 60 ⟨rfl, rfl, rfl, by decide⟩ (e) rfl (by omega) dR_join_75 ?_
  refine gh_ti (R.2 21 e) rfl ?_
  refine gh_if_eq C 93 dR_join_76 (by decide) (fun c76 => ?_) (fun c76 => ?_)
  ·
    have hz : jnR R m p e a D = jn0 R m p e a := by unfold jnR; rw [if_pos c76]; rfl
    refine gh_vret C hQ rfl dR_join_93 ?_
    exact ⟨rfl, by rw [hz]; exact hj⟩
  ·
    refine gh_iload C dR_join_79 rfl ?_
    refine gh_iconst C (-1) dR_join_81 (by decide) ?_
    refine gh_icmp_eq C 93 dR_join_82 (by decide) (fun c82 => ?_) (fun c82 => ?_)
    ·
      have hz : jnR R m p e a D = jn0 R m p e a := by
        unfold jnR; rw [if_neg c76]
        cases hw : lowc D (R.2 16 e) a with
        | none => rfl
        | some h =>
          rw [hw] at c82
          have hl := lowc_lt hw
          have := pn_lt (h + 1) (by omega) a ha
          exact absurd c82 (nI_ne1 (by omega))
      refine gh_vret C hQ rfl dR_join_93 ?_
      exact ⟨rfl, by rw [hz]; exact hj⟩
    ·
      obtain ⟨h, hw⟩ : ∃ h, lowc D (R.2 16 e) a = some h := by
        cases hw : lowc D (R.2 16 e) a with
        | none => rw [hw] at c82; exact absurd rfl c82
        | some h => exact ⟨h, rfl⟩
      have hl := lowc_lt hw
      have hp1 := pn_lt (h + 1) (by omega) a ha
      have hg1 := hgt_pn (h + 1) (by omega) a ha
      have hz : jnR R m p e a D = tlR (jn0 R m p e a) m e a (h + 1) (D - h) := by unfold jnR; rw [if_neg c76, hw]; rfl
      refine gh_aload_n C dR_join_85 rfl ?_
      refine gh_iload_n C dR_join_86 rfl ?_
      refine gh_iload_n C dR_join_87 rfl ?_
      refine gh_iload C dR_join_88 rfl ?_
      refine gh_callV C [.int (nI m), .int (nI e), .int (oN a (lowc D (R.2 16 e) a))] ((by rw [hw]; exact r_tell l d _ hj.1 m e a D (pn a (h + 1)) hm he ha hD1 hD4 hL1 hp1 (by omega) : gh_C l d mR_tell (rr 1 0 0) [.ref (y 0), .int (nI m), .int (nI e), .int (oN a (lowc D (R.2 16 e) a))] _ (fun v g1 => v = none ∧ rQ _ g1 y (tlR (jn0 R m p e a) m e a (hgt (pn a (h + 1))) (D + 1 - hgt (pn a (h + 1))))))) lR_233 wR_tell vR_tell hj.1.1 rfl rfl rfl (Nat.le_of_ble_eq_true rfl) ⟨Nat.le_of_ble_eq_true rfl, Nat.le_of_ble_eq_true rfl⟩ (Nat.le_of_ble_eq_true rfl) (Nat.le_of_ble_eq_true rfl) dR_join_90 (fun v108 g108 k108 => ?_)
      obtain ⟨rfl, h108⟩ := k108
      replace h108 := hj.tr h108
      rw [hg1, show D + 1 - (h + 1) = D - h by omega] at h108
      refine gh_vret C hQ rfl dR_join_93 ?_
      exact ⟨rfl, by rw [hz]; exact h108⟩
/-- the way into the next epoch -/
def foH (R : SR) (m uc e a : Nat) : SR := if R.2 18 e &&& bitN a = 0 then gaR R m uc else hdR (gaR R m uc) (R.2 22 (31 * e + 2 * a))
def foW (R : SR) (e a D : Nat) : Option Nat := if R.2 21 e = 0 then none else lowc D (R.2 16 e) a
def foR (R : SR) (m uc e a D : Nat) : SR := tlQ (adK (foH R m uc e a) m e a D) m e a D (foW R e a D)
abbrev toQ (R T : SR) (e a h k : Nat) : Prop := R.2 10 k = nI e ∧ R.2 11 k = nI (pn a (h + 1)) ∧ R.2 8 k ∈ lst T
theorem foH_f (R : SR) (m uc e a : Nat) : (∀ f, f ≠ 46 → (foH R m uc e a).1 f = R.1 f) ∧ (∀ f, f ≠ 47 → (foH R m uc e a).2 f = R.2 f) ∧ (foH R m uc e a).1 46 ≤ (cnd R m uc).length + 1 := by
  have h := hF_f (ri R 46 0) (cnd R m uc)
  have e0 : (ri R 46 0).1 46 = 0 := by simp [ri]
  have h1 : (∀ f, f ≠ 46 → (gaR R m uc).1 f = R.1 f) ∧ (∀ f, f ≠ 47 → (gaR R m uc).2 f = R.2 f) ∧ (gaR R m uc).1 46 ≤ (cnd R m uc).length := ⟨fun f hf => (h.1 f hf).trans (by simp [ri, hf]), h.2.1, by have := h.2.2; unfold gaR; omega⟩
  unfold foH
  split
  · exact ⟨h1.1, h1.2.1, by omega⟩
  · have h2 := hdR_f (gaR R m uc) (R.2 22 (31 * e + 2 * a))
    exact ⟨fun f hf => (h2.1 f hf).trans (h1.1 f hf), fun f hf => (h2.2.1 f hf).trans (h1.2.1 f hf), by omega⟩
theorem cnd_len (R : SR) (m : Nat) {uc : Nat} (hu : uc ≤ 20) (hP : R.1 35 ≤ 60) : (cnd R m uc).length ≤ 173 := by
  have h1 := c1_len R m
  have h2 := c2_len R m
  have h3 := c3_len R m 31
  have h4 := c4_len R m uc
  have h5 := c5_len R m (R.1 35)
  unfold cnd
  simp only [List.length_append]
  omega
set_option maxRecDepth 100000 in
set_option maxHeartbeats 4000000 in
theorem r_followOut (l : Launch) (d : gh_D) (g : gh_H) {y : Nat → Nat} {R : SR} (hR : rR g y R) (m e a : Nat) (hm : m < 16) (he : e + 1 < 60) (h27 : R.2 27 m = nI e) (ha : a < 16) (hL : R.2 28 m = nI a) (hrm : ¬ R.2 17 (e + 1) &&& bitN a = 0) : gh_C l d mR_follow (rr 1 0 0) [.ref (y 0), .int (nI m)] g (fun v g1 => v = none ∧ rQ g g1 y (lvR R m)) := by
  refine gh_of [some (.ref (y 0)), some (.int (nI m)), none, none, none, none] (by decide) rfl (Nat.le_of_ble_eq_true rfl) (by simp [Value.category]) (fun z C hQ => ?_)
  show gh_W l d z 0 [some (.ref (y 0)), some (.int (nI m)), none, none, none, none] [] g 0 0
  have h0 := rQ.rf hR
  refine gh_aload_n C dR_follow_0 rfl ?_
  refine rw_get C h0 fR_80 rfl dR_follow_1 ?_
  refine gh_iload_n C dR_follow_4 rfl ?_
  refine rw_ild C h0 27 16 ⟨rfl, rfl, rfl, by decide⟩ (m) rfl (by omega) dR_follow_5 ?_
  refine gh_ti (nI e) h27 ?_
  refine gh_iconst C 1 dR_follow_6 (by decide) ?_
  refine gh_iadd C dR_follow_7 ?_
  refine gh_ti (nI (e + 1)) (nI_add e 1) ?_
  refine gh_istore_n C [some (.ref (y 0)), some (.int (nI m)), some (.int (nI (e + 1))), none, none, none] dR_follow_8 rfl (Nat.le_of_ble_eq_true rfl) ?_
  refine gh_aload_n C dR_follow_9 rfl ?_
  refine rw_get C h0 fR_50 rfl dR_follow_10 ?_
  refine gh_iload_n C dR_follow_13 rfl ?_
  refine rw_ild C h0 17 60 ⟨rfl, rfl, rfl, by decide⟩ (e + 1) rfl (by omega) dR_follow_14 ?_
  refine gh_aload_n C dR_follow_15 rfl ?_
  refine rw_get C h0 fR_83 rfl dR_follow_16 ?_
  refine gh_iload_n C dR_follow_19 rfl ?_
  refine rw_ild C h0 28 16 ⟨rfl, rfl, rfl, by decide⟩ (m) rfl (by omega) dR_follow_20 ?_
  refine gh_ti (nI a) hL ?_
  refine gh_ishr C dR_follow_21 ?_
  refine gh_iconst C 1 dR_follow_22 (by decide) ?_
  refine gh_iand C dR_follow_23 ?_
  refine gh_iconst C 1 dR_follow_24 (by decide) ?_
  refine gh_icmp_ne C 34 dR_follow_25 (by decide) (fun c25 => ?_) (fun c25 => ?_)
  · exact absurd ((bt1 (by omega)).mpr hrm) c25
  ·
    refine gh_aload_n C dR_follow_28 rfl ?_
    refine gh_iload_n C dR_follow_29 rfl ?_
    refine gh_callV C [.int (nI m)] (r_leave l d _ h0.1 m hm) lR_147 wR_leave vR_leave h0.1.1 rfl rfl rfl (Nat.le_of_ble_eq_true rfl) ⟨Nat.le_of_ble_eq_true rfl, Nat.le_of_ble_eq_true rfl⟩ (Nat.le_of_ble_eq_true rfl) (Nat.le_of_ble_eq_true rfl) dR_follow_30 (fun v101 g101 k101 => ?_)
    obtain ⟨rfl, h101⟩ := k101
    replace h101 := h0.tr h101
    refine gh_vret C hQ rfl dR_follow_33 ?_
    exact ⟨rfl, h101⟩
set_option maxRecDepth 100000 in
set_option maxHeartbeats 4000000 in
theorem r_follow (l : Launch) (d : gh_D) (g : gh_H) {y : Nat → Nat} {R : SR} (hR : rR g y R) (m e a D uc : Nat) (hm : m < 16) (he : e + 1 < 60) (h27 : R.2 27 m = nI e) (ha : a < 16) (hD : R.2 13 (e + 1) = nI D) (hD4 : D ≤ 4) (hL : R.2 28 m = nI a) (hrm : R.2 17 (e + 1) &&& bitN a = 0) (huc : R.2 31 m = nI uc) (hu20 : uc ≤ 20) (hP : R.1 35 ≤ 60) (hN7 : R.1 7 ≤ 3600) (htold : ∀ h, foW R (e + 1) a D = some h → ∃ k, k < R.1 7 ∧ toQ R (foH R m uc (e + 1) a) (e + 1) a h k) : gh_C l d mR_follow (rr 3 0 0) [.ref (y 0), .int (nI m)] g (fun v g1 => v = none ∧ rQ g g1 y (foR R m uc (e + 1) a D)) := by
  refine gh_of [some (.ref (y 0)), some (.int (nI m)), none, none, none, none] (by decide) rfl (Nat.le_of_ble_eq_true rfl) (by simp [Value.category]) (fun z C hQ => ?_)
  show gh_W l d z 0 [some (.ref (y 0)), some (.int (nI m)), none, none, none, none] [] g 0 0
  have h0 := rQ.rf hR
  have sH := foH_f R m uc (e + 1) a
  have cl := cnd_len R m hu20 hP
  obtain ⟨T, eT⟩ : ∃ T, T = foH R m uc (e + 1) a := ⟨_, rfl⟩
  rw [← eT] at sH htold
  have hDT : T.2 13 (e + 1) = nI D := by rw [sH.2.1 13 (by decide)]; exact hD
  have hLT : T.2 28 m = nI a := by rw [sH.2.1 28 (by decide)]; exact hL
  have hw2 : ∀ h, foW R (e + 1) a D = some h → h < D := fun h hh => by
    unfold foW at hh
    split at hh
    · cases hh
    · exact lowc_lt hh
  have tail : ∀ (g1 : gh_H) (w : Option Nat) (t : Int32) (y5 : Option Value), w = foW R (e + 1) a D → t = (if w = none then 0 else 1) → rQ g g1 y T → gh_W l d z 179 [some (.ref (y 0)), some (.int (nI m)), some (.int (nI (e + 1))), some (.int (oN a w)), some (.int t), y5] [] g1 0 0 := by
    intro g1 w t y5 hw ht h1
    refine gh_aload_n C dR_follow_179 rfl ?_
    refine gh_iload_n C dR_follow_180 rfl ?_
    refine gh_iload_n C dR_follow_181 rfl ?_
    refine gh_iconst C 0 dR_follow_182 (by decide) ?_
    refine gh_callV C [.int (nI m), .int (nI (e + 1)), .int 0] (r_advance l d _ h1.1 m (e + 1) a D 0 hm he ha hDT hD4 (by omega) hLT) lR_260 wR_advance vR_advance h1.1.1 rfl rfl rfl (Nat.le_of_ble_eq_true rfl) ⟨Nat.le_of_ble_eq_true rfl, Nat.le_of_ble_eq_true rfl⟩ (Nat.le_of_ble_eq_true rfl) (Nat.le_of_ble_eq_true rfl) dR_follow_183 (fun v101 g101 k101 => ?_)
    obtain ⟨rfl, h101⟩ := k101
    replace h101 := h1.tr h101
    rw [show adR T m (e + 1) a D 0 = adK T m (e + 1) a D from if_neg (fun h => h.1 rfl)] at h101
    refine gh_iload C dR_follow_186 rfl ?_
    refine gh_if_eq C 198 dR_follow_188 (by decide) (fun c188 => ?_) (fun c188 => ?_)
    ·
      have hwn : w = none := by
        cases hx : w with
        | none => rfl
        | some h => rw [ht, hx] at c188; simp at c188
      have hz : foR R m uc (e + 1) a D = adK T m (e + 1) a D := by unfold foR; rw [← hw, hwn, ← eT]; rfl
      refine gh_iload_n C dR_follow_198 rfl ?_
      refine gh_iconst C (-1) dR_follow_199 (by decide) ?_
      refine gh_icmp_eq C 208 dR_follow_200 (by decide) (fun c200 => ?_) (fun c200 => ?_)
      ·
        refine gh_vret C hQ rfl dR_follow_208 ?_
        exact ⟨rfl, by rw [hz]; exact h101⟩
      ·
        have hwn9 : w ≠ none := fun h9 => c200 (by rw [h9]; rfl)
        refine gh_iload C dR_follow_203 rfl ?_
        refine gh_if_eq C 209 dR_follow_205 (by decide) (fun c205 => ?_) (fun c205 => ?_)
        · exact absurd (show w = none by
            cases hx9 : w with
            | none => rfl
            | some h => rw [ht, hx9] at c205; simp at c205) hwn9
        ·
          refine gh_vret C hQ rfl dR_follow_208 ?_
          exact ⟨rfl, by rw [hz]; exact h101⟩
    ·
      obtain ⟨h, hx⟩ : ∃ h, w = some h := by
        cases hx : w with
        | none => rw [ht, hx] at c188; exact absurd rfl c188
        | some h => exact ⟨h, rfl⟩
      have hl := hw2 h (by rw [← hw]; exact hx)
      have hp1 := pn_lt (h + 1) (by omega) a ha
      have hg1 := hgt_pn (h + 1) (by omega) a ha
      have hz : foR R m uc (e + 1) a D = tlR (adK T m (e + 1) a D) m (e + 1) a (h + 1) (D - h) := by unfold foR; rw [← hw, hx, ← eT]; rfl
      have hDA : (adK T m (e + 1) a D).2 13 (e + 1) = nI D := hDT
      have hLA : (adK T m (e + 1) a D).2 28 m = nI a := hLT
      refine gh_aload_n C dR_follow_191 rfl ?_
      refine gh_iload_n C dR_follow_192 rfl ?_
      refine gh_iload_n C dR_follow_193 rfl ?_
      refine gh_iload_n C dR_follow_194 rfl ?_
      refine gh_callV C [.int (nI m), .int (nI (e + 1)), .int (oN a w)] ((by rw [hx]; exact r_tell l d _ h101.1 m (e + 1) a D (pn a (h + 1)) hm he ha hDA hD4 hLA hp1 (by omega) : gh_C l d mR_tell (rr 1 0 0) [.ref (y 0), .int (nI m), .int (nI (e + 1)), .int (oN a w)] _ (fun v g1 => v = none ∧ rQ _ g1 y (tlR (adK T m (e + 1) a D) m (e + 1) a (hgt (pn a (h + 1))) (D + 1 - hgt (pn a (h + 1))))))) lR_233 wR_tell vR_tell h101.1.1 rfl rfl rfl (Nat.le_of_ble_eq_true rfl) ⟨Nat.le_of_ble_eq_true rfl, Nat.le_of_ble_eq_true rfl⟩ (Nat.le_of_ble_eq_true rfl) (Nat.le_of_ble_eq_true rfl) dR_follow_195 (fun v102 g102 k102 => ?_)
      obtain ⟨rfl, h102⟩ := k102
      replace h102 := h101.tr h102
      rw [hg1, show D + 1 - (h + 1) = D - h by omega] at h102
      refine gh_iload_n C dR_follow_198 rfl ?_
      refine gh_iconst C (-1) dR_follow_199 (by decide) ?_
      refine gh_icmp_eq C 208 dR_follow_200 (by decide) (fun c200 => ?_) (fun c200 => ?_)
      ·
        refine gh_vret C hQ rfl dR_follow_208 ?_
        exact ⟨rfl, by rw [hz]; exact h102⟩
      ·
        have hwn9 : w ≠ none := fun h9 => c200 (by rw [h9]; rfl)
        refine gh_iload C dR_follow_203 rfl ?_
        refine gh_if_eq C 209 dR_follow_205 (by decide) (fun c205 => ?_) (fun c205 => ?_)
        · exact absurd (show w = none by
            cases hx9 : w with
            | none => rfl
            | some h => rw [ht, hx9] at c205; simp at c205) hwn9
        ·
          refine gh_vret C hQ rfl dR_follow_208 ?_
          exact ⟨rfl, by rw [hz]; exact h102⟩
  have loop : ∀ (g1 : gh_H) (h : Nat), foW R (e + 1) a D = some h → rQ g g1 y T → ∀ (c i : Nat) (t : Int32), i + c = R.1 7 → (t = 1 ∧ (∃ k, k < i ∧ toQ R T (e + 1) a h k) ∨ t = 0 ∧ ∀ k, k < i → ¬ toQ R T (e + 1) a h k) → gh_W l d z 111 [some (.ref (y 0)), some (.int (nI m)), some (.int (nI (e + 1))), some (.int (nI (pn a (h + 1)))), some (.int t), some (.int (nI i))] [] g1 0 0 := by
    intro g1 h hh h1 c
    have hl := hw2 h hh
    have hp1 := pn_lt (h + 1) (by omega) a ha
    have e7 : T.1 7 = R.1 7 := sH.1 7 (by decide)
    induction c with
    | zero =>
      intro i t hi ht
      have hi : i = R.1 7 := by omega
      have ht1 : t = 1 := by
        rcases ht with h9 | h9
        · exact h9.1
        · obtain ⟨k, hk, hq⟩ := htold h hh
          exact absurd hq (h9.2 k (by omega))
      refine gh_iload C dR_follow_111 rfl ?_
      refine gh_aload_n C dR_follow_113 rfl ?_
      refine rw_get C h1 fR_161 rfl dR_follow_114 ?_
      refine gh_icmp_ge C 179 dR_follow_117 (by decide) (fun c117 => ?_) (fun c117 => ?_)
      ·
        exact tail g1 (some h) t _ hh.symm (by rw [ht1]; rfl) h1
      · exact absurd (show nI (T.1 7) ≤ nI i from nI_le (by omega) (by omega)) c117
    | succ c ih =>
      intro i t hi ht
      have nxt : ∀ (t1 : Int32), (t1 = 1 ∧ (∃ k, k < i + 1 ∧ toQ R T (e + 1) a h k) ∨ t1 = 0 ∧ ∀ k, k < i + 1 → ¬ toQ R T (e + 1) a h k) → gh_W l d z 171 [some (.ref (y 0)), some (.int (nI m)), some (.int (nI (e + 1))), some (.int (nI (pn a (h + 1)))), some (.int t), some (.int (nI i))] [.int t1] g1 0 0 := by
        intro t1 ht1
        refine gh_istore C [some (.ref (y 0)), some (.int (nI m)), some (.int (nI (e + 1))), some (.int (nI (pn a (h + 1)))), some (.int t1), some (.int (nI i))] dR_follow_171 rfl (Nat.le_of_ble_eq_true rfl) ?_
        refine gh_iinc C (nI (i + 1)) [some (.ref (y 0)), some (.int (nI m)), some (.int (nI (e + 1))), some (.int (nI (pn a (h + 1)))), some (.int t1), some (.int (nI (i + 1)))] dR_follow_173 rfl (gh_inc i) rfl ?_
        refine gh_goto C 111 dR_follow_176 (by decide) ?_
        exact ih (i + 1) t1 (by omega) ht1
      have n0 : t = 0 → ¬ toQ R T (e + 1) a h i → ∀ k, k < i + 1 → ¬ toQ R T (e + 1) a h k := fun h0 hn k hk => by
        by_cases hki : k = i
        · subst hki; exact hn
        · rcases ht with h9 | h9
          · rw [h0] at h9; exact absurd h9.1 (by decide)
          · exact h9.2 k (by omega)
      refine gh_iload C dR_follow_111 rfl ?_
      refine gh_aload_n C dR_follow_113 rfl ?_
      refine rw_get C h1 fR_161 rfl dR_follow_114 ?_
      refine gh_icmp_ge C 179 dR_follow_117 (by decide) (fun c117 => ?_) (fun c117 => ?_)
      · exact absurd c117 (show ¬ nI (T.1 7) ≤ nI i from nI_ge (by omega) (by omega))
      ·
        refine gh_iload_n C dR_follow_120 rfl ?_
        refine gh_iconst C (-1) dR_follow_121 (by decide) ?_
        refine gh_icmp_eq C 179 dR_follow_122 (by decide) (fun c122 => ?_) (fun c122 => ?_)
        · exact absurd c122 (nI_ne1 (by omega))
        ·
          refine gh_iload C dR_follow_125 rfl ?_
          refine gh_if_ne C 166 dR_follow_127 (by decide) (fun c127 => ?_) (fun c127 => ?_)
          ·
            have hz : ∃ k, k < i + 1 ∧ toQ R T (e + 1) a h k := by
              rcases ht with ⟨-, k, hk, hq⟩ | h9
              · exact ⟨k, by omega, hq⟩
              · exact absurd h9.1 c127
            refine gh_iconst C 1 dR_follow_166 (by decide) ?_
            refine gh_goto C 171 dR_follow_167 (by decide) ?_
            exact nxt 1 (Or.inl ⟨rfl, hz⟩)
          ·
            skip
            refine gh_aload_n C dR_follow_130 rfl ?_
            refine rw_get C h1 fR_32 rfl dR_follow_131 ?_
            refine gh_iload C dR_follow_134 rfl ?_
            refine rw_ild C h1 10 3600 ⟨rfl, rfl, rfl, by decide⟩ (i) rfl (by omega) dR_follow_136 ?_
            refine gh_ti (R.2 10 i) (by rw [sH.2.1 10 (by decide)]) ?_
            refine gh_iload_n C dR_follow_137 rfl ?_
            refine gh_icmp_ne C 170 dR_follow_138 (by decide) (fun c138 => ?_) (fun c138 => ?_)
            ·
              have hn : ¬ toQ R T (e + 1) a h i := fun h9 => c138 h9.1
              refine gh_iconst C 0 dR_follow_170 (by decide) ?_
              exact nxt 0 (Or.inr ⟨rfl, n0 c127 hn⟩)
            ·
              refine gh_aload_n C dR_follow_141 rfl ?_
              refine rw_get C h1 fR_35 rfl dR_follow_142 ?_
              refine gh_iload C dR_follow_145 rfl ?_
              refine rw_ild C h1 11 3600 ⟨rfl, rfl, rfl, by decide⟩ (i) rfl (by omega) dR_follow_147 ?_
              refine gh_ti (R.2 11 i) (by rw [sH.2.1 11 (by decide)]) ?_
              refine gh_iload_n C dR_follow_148 rfl ?_
              refine gh_icmp_ne C 170 dR_follow_149 (by decide) (fun c149 => ?_) (fun c149 => ?_)
              ·
                have hn : ¬ toQ R T (e + 1) a h i := fun h9 => c149 h9.2.1
                refine gh_iconst C 0 dR_follow_170 (by decide) ?_
                exact nxt 0 (Or.inr ⟨rfl, n0 c127 hn⟩)
              ·
                refine gh_aload_n C dR_follow_152 rfl ?_
                refine gh_aload_n C dR_follow_153 rfl ?_
                refine rw_get C h1 fR_26 rfl dR_follow_154 ?_
                refine gh_iload C dR_follow_157 rfl ?_
                refine rw_ild C h1 8 3600 ⟨rfl, rfl, rfl, by decide⟩ (i) rfl (by omega) dR_follow_159 ?_
                refine gh_ti (R.2 8 i) (by rw [sH.2.1 8 (by decide)]) ?_
                refine gh_callV C [.int (R.2 8 i)] (r_isHeld l d _ h1.1 (R.2 8 i) (by omega)) lR_284 wR_isHeld vR_isHeld h1.1.1 rfl rfl rfl (Nat.le_of_ble_eq_true rfl) ⟨Nat.le_of_ble_eq_true rfl, Nat.le_of_ble_eq_true rfl⟩ (Nat.le_of_ble_eq_true rfl) (Nat.le_of_ble_eq_true rfl) dR_follow_160 (fun v101 g101 k101 => ?_)
                obtain ⟨rfl, e101⟩ := k101
                subst g101
                refine gh_if_eq C 170 dR_follow_163 (by decide) (fun c163 => ?_) (fun c163 => ?_)
                ·
                  have hn : ¬ toQ R T (e + 1) a h i := fun h9 => by rw [if_pos h9.2.2] at c163; exact absurd c163 (by decide)
                  refine gh_iconst C 0 dR_follow_170 (by decide) ?_
                  exact nxt 0 (Or.inr ⟨rfl, n0 c127 hn⟩)
                ·
                  have hz : ∃ k, k < i + 1 ∧ toQ R T (e + 1) a h k := ⟨i, by omega, c138, c149, by
                    by_cases h9 : R.2 8 i ∈ lst T
                    · exact h9
                    · rw [if_neg h9] at c163; exact absurd rfl c163⟩
                  refine gh_iconst C 1 dR_follow_166 (by decide) ?_
                  refine gh_goto C 171 dR_follow_167 (by decide) ?_
                  exact nxt 1 (Or.inl ⟨rfl, hz⟩)
  have mid : ∀ (g1 : gh_H), rQ g g1 y T → gh_W l d z 80 [some (.ref (y 0)), some (.int (nI m)), some (.int (nI (e + 1))), none, none, none] [] g1 0 0 := by
    intro g1 h1
    have go : ∀ w : Option Nat, w = foW R (e + 1) a D → gh_W l d z 104 [some (.ref (y 0)), some (.int (nI m)), some (.int (nI (e + 1))), none, none, none] [.int (oN a w)] g1 0 0 := by
      intro w hw
      refine gh_istore_n C [some (.ref (y 0)), some (.int (nI m)), some (.int (nI (e + 1))), some (.int (oN a w)), none, none] dR_follow_104 rfl (Nat.le_of_ble_eq_true rfl) ?_
      refine gh_iconst C 0 dR_follow_105 (by decide) ?_
      refine gh_istore C [some (.ref (y 0)), some (.int (nI m)), some (.int (nI (e + 1))), some (.int (oN a w)), some (.int 0), none] dR_follow_106 rfl (Nat.le_of_ble_eq_true rfl) ?_
      refine gh_iconst C 0 dR_follow_108 (by decide) ?_
      refine gh_istore C [some (.ref (y 0)), some (.int (nI m)), some (.int (nI (e + 1))), some (.int (oN a w)), some (.int 0), some (.int 0)] dR_follow_109 rfl (Nat.le_of_ble_eq_true rfl) ?_
      cases hx : w with
      | some h =>
        exact loop g1 h (by rw [← hw]; exact hx) h1 (R.1 7) 0 0 (by omega) (Or.inr ⟨rfl, fun k hk => absurd hk (Nat.not_lt_zero k)⟩)
      | none =>
        have e7 : T.1 7 = R.1 7 := sH.1 7 (by decide)
        have t0 := tail g1 none 0 (some (.int (nI 0))) (by rw [← hw]; exact hx.symm) rfl h1
        refine gh_iload C dR_follow_111 rfl ?_
        refine gh_aload_n C dR_follow_113 rfl ?_
        refine rw_get C h1 fR_161 rfl dR_follow_114 ?_
        refine gh_icmp_ge C 179 dR_follow_117 (by decide) (fun _ => t0) (fun _ => ?_)
        refine gh_iload_n C dR_follow_120 rfl ?_
        refine gh_iconst C (-1) dR_follow_121 (by decide) ?_
        refine gh_icmp_eq C 179 dR_follow_122 (by decide) (fun _ => t0) (fun c => absurd rfl c)
    refine gh_aload_n C dR_follow_80 rfl ?_
    refine rw_get C h1 fR_62 rfl dR_follow_81 ?_
    refine gh_iload_n C dR_follow_84 rfl ?_
    refine rw_zld C h1 21 60 ⟨rfl, rfl, rfl, by decide⟩ (e + 1) rfl (by omega) dR_follow_85 ?_
    refine gh_ti (R.2 21 (e + 1)) (by rw [sH.2.1 21 (by decide)]) ?_
    refine gh_if_eq C 103 dR_follow_86 (by decide) (fun c86 => ?_) (fun c86 => ?_)
    ·
      have hw : foW R (e + 1) a D = none := if_pos c86
      refine gh_iconst C (-1) dR_follow_103 (by decide) ?_
      exact go none hw.symm
    ·
      have hw : foW R (e + 1) a D = lowc D (R.2 16 (e + 1)) a := if_neg c86
      refine gh_aload_n C dR_follow_89 rfl ?_
      refine gh_iload_n C dR_follow_90 rfl ?_
      refine gh_aload_n C dR_follow_91 rfl ?_
      refine rw_get C h1 fR_83 rfl dR_follow_92 ?_
      refine gh_iload_n C dR_follow_95 rfl ?_
      refine rw_ild C h1 28 16 ⟨rfl, rfl, rfl, by decide⟩ (m) rfl (by omega) dR_follow_96 ?_
      refine gh_ti (nI a) hLT ?_
      refine gh_callV C [.int (nI (e + 1)), .int (nI a)] (r_meeting l d _ h1.1 (e + 1) a D he ha hDT hD4) lR_227 wR_meeting vR_meeting h1.1.1 rfl rfl rfl (Nat.le_of_ble_eq_true rfl) ⟨Nat.le_of_ble_eq_true rfl, Nat.le_of_ble_eq_true rfl⟩ (Nat.le_of_ble_eq_true rfl) (Nat.le_of_ble_eq_true rfl) dR_follow_97 (fun v101 g101 k101 => ?_)
      obtain ⟨rfl, e101⟩ := k101
      subst g101
      rw [sH.2.1 16 (by decide)]
      refine gh_goto C 104 dR_follow_100 (by decide) ?_
      exact go _ hw.symm
  refine gh_aload_n C dR_follow_0 rfl ?_
  refine rw_get C h0 fR_80 rfl dR_follow_1 ?_
  refine gh_iload_n C dR_follow_4 rfl ?_
  refine rw_ild C h0 27 16 ⟨rfl, rfl, rfl, by decide⟩ (m) rfl (by omega) dR_follow_5 ?_
  refine gh_ti (nI e) h27 ?_
  refine gh_iconst C 1 dR_follow_6 (by decide) ?_
  refine gh_iadd C dR_follow_7 ?_
  refine gh_ti (nI (e + 1)) (nI_add e 1) ?_
  refine gh_istore_n C [some (.ref (y 0)), some (.int (nI m)), some (.int (nI (e + 1))), none, none, none] dR_follow_8 rfl (Nat.le_of_ble_eq_true rfl) ?_
  refine gh_aload_n C dR_follow_9 rfl ?_
  refine rw_get C h0 fR_50 rfl dR_follow_10 ?_
  refine gh_iload_n C dR_follow_13 rfl ?_
  refine rw_ild C h0 17 60 ⟨rfl, rfl, rfl, by decide⟩ (e + 1) rfl (by omega) dR_follow_14 ?_
  refine gh_aload_n C dR_follow_15 rfl ?_
  refine rw_get C h0 fR_83 rfl dR_follow_16 ?_
  refine gh_iload_n C dR_follow_19 rfl ?_
  refine rw_ild C h0 28 16 ⟨rfl, rfl, rfl, by decide⟩ (m) rfl (by omega) dR_follow_20 ?_
  refine gh_ti (nI a) hL ?_
  refine gh_ishr C dR_follow_21 ?_
  refine gh_iconst C 1 dR_follow_22 (by decide) ?_
  refine gh_iand C dR_follow_23 ?_
  refine gh_iconst C 1 dR_follow_24 (by decide) ?_
  refine gh_icmp_ne C 34 dR_follow_25 (by decide) (fun c25 => ?_) (fun c25 => ?_)
  ·
    refine gh_aload_n C dR_follow_34 rfl ?_
    refine gh_iload_n C dR_follow_35 rfl ?_
    refine gh_callV C [.int (nI m)] (r_gather l d _ h0.1 m uc hm (fun _ => ⟨e, by omega, h27⟩) huc hu20 hP) lR_281 wR_gather vR_gather h0.1.1 rfl rfl rfl (Nat.le_of_ble_eq_true rfl) ⟨Nat.le_of_ble_eq_true rfl, Nat.le_of_ble_eq_true rfl⟩ (Nat.le_of_ble_eq_true rfl) (Nat.le_of_ble_eq_true rfl) dR_follow_36 (fun v101 g101 k101 => ?_)
    obtain ⟨rfl, h101⟩ := k101
    replace h101 := h0.tr h101
    have hg := hF_f (ri R 46 0) (cnd R m uc)
    have e46 : (ri R 46 0).1 46 = 0 := by simp [ri]
    obtain ⟨G, eG⟩ : ∃ G, G = gaR R m uc := ⟨_, rfl⟩
    rw [← eG] at h101
    change _ ∧ _ ∧ (gaR R m uc).1 46 ≤ _ at hg
    have hg2 : ∀ f, f ≠ 47 → G.2 f = R.2 f := fun f hf => by rw [eG]; exact hg.2.1 f hf
    have hg46 : G.1 46 ≤ 173 := by rw [eG]; omega
    refine gh_aload_n C dR_follow_39 rfl ?_
    refine rw_get C h101 fR_53 rfl dR_follow_40 ?_
    refine gh_iload_n C dR_follow_43 rfl ?_
    refine rw_ild C h101 18 60 ⟨rfl, rfl, rfl, by decide⟩ (e + 1) rfl (by omega) dR_follow_44 ?_
    refine gh_ti (R.2 18 (e + 1)) (by rw [hg2 18 (by decide)]) ?_
    refine gh_aload_n C dR_follow_45 rfl ?_
    refine rw_get C h101 fR_83 rfl dR_follow_46 ?_
    refine gh_iload_n C dR_follow_49 rfl ?_
    refine rw_ild C h101 28 16 ⟨rfl, rfl, rfl, by decide⟩ (m) rfl (by omega) dR_follow_50 ?_
    refine gh_ti (nI a) (by rw [hg2 28 (by decide)]; exact hL) ?_
    refine gh_ishr C dR_follow_51 ?_
    refine gh_iconst C 1 dR_follow_52 (by decide) ?_
    refine gh_iand C dR_follow_53 ?_
    refine gh_iconst C 1 dR_follow_54 (by decide) ?_
    refine gh_icmp_ne C 80 dR_follow_55 (by decide) (fun c55 => ?_) (fun c55 => ?_)
    ·
      have hz : T = G := by
        rw [eT, eG]
        refine if_pos ?_
        by_cases h9 : R.2 18 (e + 1) &&& bitN a = 0
        · exact h9
        · exact absurd ((bt1 (by omega)).mpr h9) c55
      exact mid _ (by rw [hz]; exact h101)
    ·
      have hz : T = hdR G (R.2 22 (31 * (e + 1) + 2 * a)) := by
        rw [eT, eG]
        exact if_neg ((bt1 (by omega)).mp c55)
      refine gh_aload_n C dR_follow_58 rfl ?_
      refine gh_aload_n C dR_follow_59 rfl ?_
      refine rw_get C h101 fR_65 rfl dR_follow_60 ?_
      refine gh_bipush C 31 dR_follow_63 (by decide) ?_
      refine gh_iload_n C dR_follow_65 rfl ?_
      refine gh_imul C dR_follow_66 ?_
      refine gh_ti (nI (31 * (e + 1))) (pk_mul 31 (e + 1)) ?_
      refine gh_iconst C 2 dR_follow_67 (by decide) ?_
      refine gh_aload_n C dR_follow_68 rfl ?_
      refine rw_get C h101 fR_83 rfl dR_follow_69 ?_
      refine gh_iload_n C dR_follow_72 rfl ?_
      refine rw_ild C h101 28 16 ⟨rfl, rfl, rfl, by decide⟩ (m) rfl (by omega) dR_follow_73 ?_
      refine gh_ti (nI a) (by rw [hg2 28 (by decide)]; exact hL) ?_
      refine gh_imul C dR_follow_74 ?_
      refine gh_ti (nI (2 * a)) (pk_mul 2 a) ?_
      refine gh_iadd C dR_follow_75 ?_
      refine gh_ti (nI (31 * (e + 1) + 2 * a)) (nI_add (31 * (e + 1)) (2 * a)) ?_
      refine rw_ild C h101 22 1860 ⟨rfl, rfl, rfl, by decide⟩ (31 * (e + 1) + 2 * a) rfl (by omega) dR_follow_76 ?_
      refine gh_ti (R.2 22 (31 * (e + 1) + 2 * a)) (by rw [hg2 22 (by decide)]) ?_
      refine gh_callV C [.int (R.2 22 (31 * (e + 1) + 2 * a))] (r_hold l d _ h101.1 (R.2 22 (31 * (e + 1) + 2 * a)) (by omega)) lR_186 wR_hold vR_hold h101.1.1 rfl rfl rfl (Nat.le_of_ble_eq_true rfl) ⟨Nat.le_of_ble_eq_true rfl, Nat.le_of_ble_eq_true rfl⟩ (Nat.le_of_ble_eq_true rfl) (Nat.le_of_ble_eq_true rfl) dR_follow_77 (fun v102 g102 k102 => ?_)
      obtain ⟨rfl, h102⟩ := k102
      replace h102 := h101.tr h102
      exact mid _ (by rw [hz]; exact h102)
  · exact absurd hrm ((bt1 (by omega)).mp c25)
