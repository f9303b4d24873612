/-! come, compromise, the queries -/
def coT (R : SR) (x : Int32) : Nat := if inn 16 x = true then (if latR R x.toNatClampNeg = true ∨ (R.2 27 x.toNatClampNeg = -1 ∧ np R x.toNatClampNeg (R.1 35) = none) then 2 else 0) else 1
theorem latR_n {R : SR} {m : Nat} (h : R.2 27 m = -1) (hE : R.1 12 ≤ 60) : ¬ latR R m = true := by
  unfold latR
  rw [h]
  simp only [decide_eq_true_eq]
  exact fun h9 => nI_ne1 (by omega) h9.symm
set_option maxRecDepth 100000 in
set_option maxHeartbeats 4000000 in
theorem r_comeJ (l : Launch) (d : gh_D) (g : gh_H) {y : Nat → Nat} {R : SR} (hR : rR g y R) (m p e a D : Nat) (hm : m < 16) (hp : p < 60) (hE : 1 ≤ R.1 12) (hE60 : R.1 12 ≤ 60) (hP : R.1 35 ≤ 60) (he : e < 60) (ha : a < 16) (hD : R.2 13 e = nI D) (hD4 : D ≤ 4) (h39 : R.2 39 p = nI e) (h40 : R.2 40 p = nI a) (h27 : R.2 27 m = -1) (hnp : np R m (R.1 35) = some p) : gh_C l d mR_come (rr 3 0 0) [.ref (y 0), .int (nI m)] g (fun v g1 => v = some (.int ((jnR (ri R 0 0) m p e a D).2 27 m)) ∧ rQ g g1 y (jnR (ri R 0 0) m p e a D)) := by
  refine gh_of [some (.ref (y 0)), some (.int (nI m)), none, none] (by decide) rfl (Nat.le_of_ble_eq_true rfl) (by simp [Value.category]) (fun z C hQ => ?_)
  show gh_W l d z 0 [some (.ref (y 0)), some (.int (nI m)), none, none] [] g 0 0
  have h0 := rQ.rf hR
  refine gh_iload_n C dR_come_0 rfl ?_
  refine gh_istore_n C [some (.ref (y 0)), some (.int (nI m)), some (.int (nI m)), none] dR_come_1 rfl (Nat.le_of_ble_eq_true rfl) ?_
  refine gh_iload_n C dR_come_2 rfl ?_
  refine gh_bipush C 16 dR_come_3 (by decide) ?_
  refine gh_callS C [.int (nI m), .int 16] (r_inn l d _ 16 (nI m)) lR_264 wR_in sR_in rfl rfl (Nat.le_of_ble_eq_true rfl) ⟨Nat.le_of_ble_eq_true rfl, Nat.le_of_ble_eq_true rfl⟩ (Nat.le_of_ble_eq_true rfl) (Nat.le_of_ble_eq_true rfl) dR_come_5 (fun v101 g101 k101 => ?_)
  obtain ⟨rfl, e101⟩ := k101
  subst g101
  rw [if_pos (inn_n hm (by decide))]
  refine gh_if_eq C 29 dR_come_8 (by decide) (fun c8 => ?_) (fun c8 => ?_)
  · exact absurd c8 (by decide)
  ·
    refine gh_aload_n C dR_come_11 rfl ?_
    refine rw_get C h0 fR_80 rfl dR_come_12 ?_
    refine gh_iload_n C dR_come_15 rfl ?_
    refine rw_ild C h0 27 16 ⟨rfl, rfl, rfl, by decide⟩ (m) rfl (by omega) dR_come_16 ?_
    refine gh_iconst C (-1) dR_come_17 (by decide) ?_
    refine gh_icmp_ne C 29 dR_come_18 (by decide) (fun c18 => ?_) (fun c18 => ?_)
    · exact absurd h27 c18
    ·
      refine gh_aload_n C dR_come_21 rfl ?_
      refine gh_iload_n C dR_come_22 rfl ?_
      refine gh_callV C [.int (nI m)] (r_nextPackage l d _ h0.1 m hP) lR_287 wR_nextPackage vR_nextPackage h0.1.1 rfl rfl rfl (Nat.le_of_ble_eq_true rfl) ⟨Nat.le_of_ble_eq_true rfl, Nat.le_of_ble_eq_true rfl⟩ (Nat.le_of_ble_eq_true rfl) (Nat.le_of_ble_eq_true rfl) dR_come_23 (fun v102 g102 k102 => ?_)
      obtain ⟨rfl, e102⟩ := k102
      subst g102
      rw [hnp]
      change gh_W l d z _ _ (.int (nI p) :: _) _ _ _
      refine gh_goto C 30 dR_come_26 (by decide) ?_
      refine gh_istore_n C [some (.ref (y 0)), some (.int (nI m)), some (.int (nI m)), some (.int (nI p))] dR_come_30 rfl (Nat.le_of_ble_eq_true rfl) ?_
      refine gh_aload_n C dR_come_31 rfl ?_
      refine gh_iload_n C dR_come_32 rfl ?_
      refine gh_bipush C 16 dR_come_33 (by decide) ?_
      refine gh_callS C [.int (nI m), .int 16] (r_inn l d _ 16 (nI m)) lR_264 wR_in sR_in rfl rfl (Nat.le_of_ble_eq_true rfl) ⟨Nat.le_of_ble_eq_true rfl, Nat.le_of_ble_eq_true rfl⟩ (Nat.le_of_ble_eq_true rfl) (Nat.le_of_ble_eq_true rfl) dR_come_35 (fun v103 g103 k103 => ?_)
      obtain ⟨rfl, e103⟩ := k103
      subst g103
      rw [if_pos (inn_n hm (by decide))]
      refine gh_if_ne C 45 dR_come_38 (by decide) (fun c38 => ?_) (fun c38 => ?_)
      ·
        refine gh_aload_n C dR_come_45 rfl ?_
        refine gh_iload_n C dR_come_46 rfl ?_
        refine gh_callV C [.int (nI m)] (r_isLatest l d _ h0.1 m hm hE) lR_267 wR_isLatest vR_isLatest h0.1.1 rfl rfl rfl (Nat.le_of_ble_eq_true rfl) ⟨Nat.le_of_ble_eq_true rfl, Nat.le_of_ble_eq_true rfl⟩ (Nat.le_of_ble_eq_true rfl) (Nat.le_of_ble_eq_true rfl) dR_come_47 (fun v104 g104 k104 => ?_)
        obtain ⟨rfl, e104⟩ := k104
        subst g104
        rw [if_neg (latR_n h27 hE60)]
        refine gh_if_ne C 68 dR_come_50 (by decide) (fun c50 => ?_) (fun c50 => ?_)
        · exact absurd (by decide) c50
        ·
          refine gh_aload_n C dR_come_53 rfl ?_
          refine rw_get C h0 fR_80 rfl dR_come_54 ?_
          refine gh_iload_n C dR_come_57 rfl ?_
          refine rw_ild C h0 27 16 ⟨rfl, rfl, rfl, by decide⟩ (m) rfl (by omega) dR_come_58 ?_
          refine gh_iconst C (-1) dR_come_59 (by decide) ?_
          refine gh_icmp_ne C 72 dR_come_60 (by decide) (fun c60 => ?_) (fun c60 => ?_)
          · exact absurd h27 c60
          ·
            refine gh_iload_n C dR_come_63 rfl ?_
            refine gh_iconst C (-1) dR_come_64 (by decide) ?_
            refine gh_icmp_ne C 72 dR_come_65 (by decide) (fun c65 => ?_) (fun c65 => ?_)
            ·
              refine gh_iconst C 0 dR_come_72 (by decide) ?_
              refine rw_put C h0 (0) rfl pR_155 (by decide) rfl (by decide) (fun _ => rfl) (fun _ => rfl) dR_come_73 (fun g105 h105 => ?_)
              refine gh_aload_n C dR_come_76 rfl ?_
              refine rw_get C h105 fR_155 rfl dR_come_77 ?_
              refine gh_ti (nI (0)) rfl ?_
              refine gh_if_le C 85 dR_come_80 (by decide) (fun c80 => ?_) (fun c80 => ?_)
              ·
                refine gh_aload_n C dR_come_85 rfl ?_
                refine rw_get C h105 fR_80 rfl dR_come_86 ?_
                refine gh_iload_n C dR_come_89 rfl ?_
                refine rw_ild C h105 27 16 ⟨rfl, rfl, rfl, by decide⟩ (m) rfl (by omega) dR_come_90 ?_
                refine gh_ti (R.2 27 m) rfl ?_
                refine gh_iconst C (-1) dR_come_91 (by decide) ?_
                refine gh_icmp_ne C 104 dR_come_92 (by decide) (fun c92 => ?_) (fun c92 => ?_)
                · exact absurd h27 c92
                ·
                  refine gh_aload_n C dR_come_95 rfl ?_
                  refine gh_iload_n C dR_come_96 rfl ?_
                  refine gh_iload_n C dR_come_97 rfl ?_
                  refine gh_callV C [.int (nI m), .int (nI p)] (r_join l d _ h105.1 m p e a D hm hp he ha hD hD4 h39 h40) lR_290 wR_join vR_join h105.1.1 rfl rfl rfl (Nat.le_of_ble_eq_true rfl) ⟨Nat.le_of_ble_eq_true rfl, Nat.le_of_ble_eq_true rfl⟩ (Nat.le_of_ble_eq_true rfl) (Nat.le_of_ble_eq_true rfl) dR_come_98 (fun v106 g106 k106 => ?_)
                  obtain ⟨rfl, h106⟩ := k106
                  replace h106 := h105.tr h106
                  refine gh_goto C 109 dR_come_101 (by decide) ?_
                  refine gh_aload_n C dR_come_109 rfl ?_
                  refine rw_get C h106 fR_80 rfl dR_come_110 ?_
                  refine gh_iload_n C dR_come_113 rfl ?_
                  refine rw_ild C h106 27 16 ⟨rfl, rfl, rfl, by decide⟩ (m) rfl (by omega) dR_come_114 ?_
                  refine gh_iret C hQ rfl dR_come_115 ?_
                  exact ⟨rfl, h106⟩
              · exact absurd (by decide) c80
            · exact absurd c65 (nI_ne1 (by omega))
      · exact absurd c38 (by decide)
set_option maxRecDepth 100000 in
set_option maxHeartbeats 4000000 in
theorem r_comeO (l : Launch) (d : gh_D) (g : gh_H) {y : Nat → Nat} {R : SR} (hR : rR g y R) (m e a : Nat) (hm : m < 16) (hE : 1 ≤ R.1 12) (hE60 : R.1 12 ≤ 60) (hP : R.1 35 ≤ 60) (he : e + 1 < R.1 12) (h27 : R.2 27 m = nI e) (ha : a < 16) (hL : R.2 28 m = nI a) (hrm : ¬ R.2 17 (e + 1) &&& bitN a = 0) : gh_C l d mR_come (rr 4 0 0) [.ref (y 0), .int (nI m)] g (fun v g1 => v = some (.int ((lvR (ri R 0 0) m).2 27 m)) ∧ rQ g g1 y (lvR (ri R 0 0) m)) := by
  have hlat : ¬ latR R m = true := by
    unfold latR
    rw [h27]
    simp only [decide_eq_true_eq]
    exact fun h9 => absurd ((nI_eq (by omega) (by omega)).mp h9) (by omega)
  refine gh_of [some (.ref (y 0)), some (.int (nI m)), none, none] (by decide) rfl (Nat.le_of_ble_eq_true rfl) (by simp [Value.category]) (fun z C hQ => ?_)
  show gh_W l d z 0 [some (.ref (y 0)), some (.int (nI m)), none, none] [] g 0 0
  have h0 := rQ.rf hR
  refine gh_iload_n C dR_come_0 rfl ?_
  refine gh_istore_n C [some (.ref (y 0)), some (.int (nI m)), some (.int (nI m)), none] dR_come_1 rfl (Nat.le_of_ble_eq_true rfl) ?_
  refine gh_iload_n C dR_come_2 rfl ?_
  refine gh_bipush C 16 dR_come_3 (by decide) ?_
  refine gh_callS C [.int (nI m), .int 16] (r_inn l d _ 16 (nI m)) lR_264 wR_in sR_in rfl rfl (Nat.le_of_ble_eq_true rfl) ⟨Nat.le_of_ble_eq_true rfl, Nat.le_of_ble_eq_true rfl⟩ (Nat.le_of_ble_eq_true rfl) (Nat.le_of_ble_eq_true rfl) dR_come_5 (fun v101 g101 k101 => ?_)
  obtain ⟨rfl, e101⟩ := k101
  subst g101
  rw [if_pos (inn_n hm (by decide))]
  refine gh_if_eq C 29 dR_come_8 (by decide) (fun c8 => ?_) (fun c8 => ?_)
  · exact absurd c8 (by decide)
  ·
    refine gh_aload_n C dR_come_11 rfl ?_
    refine rw_get C h0 fR_80 rfl dR_come_12 ?_
    refine gh_iload_n C dR_come_15 rfl ?_
    refine rw_ild C h0 27 16 ⟨rfl, rfl, rfl, by decide⟩ (m) rfl (by omega) dR_come_16 ?_
    refine gh_iconst C (-1) dR_come_17 (by decide) ?_
    refine gh_icmp_ne C 29 dR_come_18 (by decide) (fun c18 => ?_) (fun c18 => ?_)
    ·
      refine gh_iconst C (-1) dR_come_29 (by decide) ?_
      refine gh_istore_n C [some (.ref (y 0)), some (.int (nI m)), some (.int (nI m)), some (.int (-1))] dR_come_30 rfl (Nat.le_of_ble_eq_true rfl) ?_
      refine gh_aload_n C dR_come_31 rfl ?_
      refine gh_iload_n C dR_come_32 rfl ?_
      refine gh_bipush C 16 dR_come_33 (by decide) ?_
      refine gh_callS C [.int (nI m), .int 16] (r_inn l d _ 16 (nI m)) lR_264 wR_in sR_in rfl rfl (Nat.le_of_ble_eq_true rfl) ⟨Nat.le_of_ble_eq_true rfl, Nat.le_of_ble_eq_true rfl⟩ (Nat.le_of_ble_eq_true rfl) (Nat.le_of_ble_eq_true rfl) dR_come_35 (fun v102 g102 k102 => ?_)
      obtain ⟨rfl, e102⟩ := k102
      subst g102
      rw [if_pos (inn_n hm (by decide))]
      refine gh_if_ne C 45 dR_come_38 (by decide) (fun c38 => ?_) (fun c38 => ?_)
      ·
        refine gh_aload_n C dR_come_45 rfl ?_
        refine gh_iload_n C dR_come_46 rfl ?_
        refine gh_callV C [.int (nI m)] (r_isLatest l d _ h0.1 m hm hE) lR_267 wR_isLatest vR_isLatest h0.1.1 rfl rfl rfl (Nat.le_of_ble_eq_true rfl) ⟨Nat.le_of_ble_eq_true rfl, Nat.le_of_ble_eq_true rfl⟩ (Nat.le_of_ble_eq_true rfl) (Nat.le_of_ble_eq_true rfl) dR_come_47 (fun v103 g103 k103 => ?_)
        obtain ⟨rfl, e103⟩ := k103
        subst g103
        rw [if_neg hlat]
        refine gh_if_ne C 68 dR_come_50 (by decide) (fun c50 => ?_) (fun c50 => ?_)
        · exact absurd (by decide) c50
        ·
          refine gh_aload_n C dR_come_53 rfl ?_
          refine rw_get C h0 fR_80 rfl dR_come_54 ?_
          refine gh_iload_n C dR_come_57 rfl ?_
          refine rw_ild C h0 27 16 ⟨rfl, rfl, rfl, by decide⟩ (m) rfl (by omega) dR_come_58 ?_
          refine gh_iconst C (-1) dR_come_59 (by decide) ?_
          refine gh_icmp_ne C 72 dR_come_60 (by decide) (fun c60 => ?_) (fun c60 => ?_)
          ·
            refine gh_iconst C 0 dR_come_72 (by decide) ?_
            refine rw_put C h0 (0) rfl pR_155 (by decide) rfl (by decide) (fun _ => rfl) (fun _ => rfl) dR_come_73 (fun g104 h104 => ?_)
            refine gh_aload_n C dR_come_76 rfl ?_
            refine rw_get C h104 fR_155 rfl dR_come_77 ?_
            refine gh_ti (nI (0)) rfl ?_
            refine gh_if_le C 85 dR_come_80 (by decide) (fun c80 => ?_) (fun c80 => ?_)
            ·
              refine gh_aload_n C dR_come_85 rfl ?_
              refine rw_get C h104 fR_80 rfl dR_come_86 ?_
              refine gh_iload_n C dR_come_89 rfl ?_
              refine rw_ild C h104 27 16 ⟨rfl, rfl, rfl, by decide⟩ (m) rfl (by omega) dR_come_90 ?_
              refine gh_ti (R.2 27 m) rfl ?_
              refine gh_iconst C (-1) dR_come_91 (by decide) ?_
              refine gh_icmp_ne C 104 dR_come_92 (by decide) (fun c92 => ?_) (fun c92 => ?_)
              ·
                refine gh_aload_n C dR_come_104 rfl ?_
                refine gh_iload_n C dR_come_105 rfl ?_
                refine gh_callV C [.int (nI m)] (r_followOut l d _ h104.1 m e a hm (by omega) h27 ha hL hrm) lR_293 wR_follow vR_follow h104.1.1 rfl rfl rfl (Nat.le_of_ble_eq_true rfl) ⟨Nat.le_of_ble_eq_true rfl, Nat.le_of_ble_eq_true rfl⟩ (Nat.le_of_ble_eq_true rfl) (Nat.le_of_ble_eq_true rfl) dR_come_106 (fun v105 g105 k105 => ?_)
                obtain ⟨rfl, h105⟩ := k105
                replace h105 := h104.tr h105
                refine gh_aload_n C dR_come_109 rfl ?_
                refine rw_get C h105 fR_80 rfl dR_come_110 ?_
                refine gh_iload_n C dR_come_113 rfl ?_
                refine rw_ild C h105 27 16 ⟨rfl, rfl, rfl, by decide⟩ (m) rfl (by omega) dR_come_114 ?_
                refine gh_iret C hQ rfl dR_come_115 ?_
                exact ⟨rfl, h105⟩
              · exact absurd (h27.symm.trans c92) (nI_ne1 (by omega))
            · exact absurd (by decide) c80
          · exact absurd (h27.symm.trans c60) (nI_ne1 (by omega))
      · exact absurd c38 (by decide)
    · exact absurd (h27.symm.trans c18) (nI_ne1 (by omega))
set_option maxRecDepth 100000 in
set_option maxHeartbeats 4000000 in
theorem r_comeF (l : Launch) (d : gh_D) (g : gh_H) {y : Nat → Nat} {R : SR} (hR : rR g y R) (m e a D uc : Nat) (hm : m < 16) (hE : 1 ≤ R.1 12) (hE60 : R.1 12 ≤ 60) (hP : R.1 35 ≤ 60) (he : e + 1 < R.1 12) (h27 : R.2 27 m = nI e) (ha : a < 16) (hD : R.2 13 (e + 1) = nI D) (hD4 : D ≤ 4) (hL : R.2 28 m = nI a) (hrm : R.2 17 (e + 1) &&& bitN a = 0) (huc : R.2 31 m = nI uc) (hu20 : uc ≤ 20) (hN7 : R.1 7 ≤ 3600) (htold : ∀ h, foW R (e + 1) a D = some h → ∃ k, k < R.1 7 ∧ toQ R (foH (ri R 0 0) m uc (e + 1) a) (e + 1) a h k) : gh_C l d mR_come (rr 4 0 0) [.ref (y 0), .int (nI m)] g (fun v g1 => v = some (.int ((foR (ri R 0 0) m uc (e + 1) a D).2 27 m)) ∧ rQ g g1 y (foR (ri R 0 0) m uc (e + 1) a D)) := by
  have hlat : ¬ latR R m = true := by
    unfold latR
    rw [h27]
    simp only [decide_eq_true_eq]
    exact fun h9 => absurd ((nI_eq (by omega) (by omega)).mp h9) (by omega)
  refine gh_of [some (.ref (y 0)), some (.int (nI m)), none, none] (by decide) rfl (Nat.le_of_ble_eq_true rfl) (by simp [Value.category]) (fun z C hQ => ?_)
  show gh_W l d z 0 [some (.ref (y 0)), some (.int (nI m)), none, none] [] g 0 0
  have h0 := rQ.rf hR
  refine gh_iload_n C dR_come_0 rfl ?_
  refine gh_istore_n C [some (.ref (y 0)), some (.int (nI m)), some (.int (nI m)), none] dR_come_1 rfl (Nat.le_of_ble_eq_true rfl) ?_
  refine gh_iload_n C dR_come_2 rfl ?_
  refine gh_bipush C 16 dR_come_3 (by decide) ?_
  refine gh_callS C [.int (nI m), .int 16] (r_inn l d _ 16 (nI m)) lR_264 wR_in sR_in rfl rfl (Nat.le_of_ble_eq_true rfl) ⟨Nat.le_of_ble_eq_true rfl, Nat.le_of_ble_eq_true rfl⟩ (Nat.le_of_ble_eq_true rfl) (Nat.le_of_ble_eq_true rfl) dR_come_5 (fun v101 g101 k101 => ?_)
  obtain ⟨rfl, e101⟩ := k101
  subst g101
  rw [if_pos (inn_n hm (by decide))]
  refine gh_if_eq C 29 dR_come_8 (by decide) (fun c8 => ?_) (fun c8 => ?_)
  · exact absurd c8 (by decide)
  ·
    refine gh_aload_n C dR_come_11 rfl ?_
    refine rw_get C h0 fR_80 rfl dR_come_12 ?_
    refine gh_iload_n C dR_come_15 rfl ?_
    refine rw_ild C h0 27 16 ⟨rfl, rfl, rfl, by decide⟩ (m) rfl (by omega) dR_come_16 ?_
    refine gh_iconst C (-1) dR_come_17 (by decide) ?_
    refine gh_icmp_ne C 29 dR_come_18 (by decide) (fun c18 => ?_) (fun c18 => ?_)
    ·
      refine gh_iconst C (-1) dR_come_29 (by decide) ?_
      refine gh_istore_n C [some (.ref (y 0)), some (.int (nI m)), some (.int (nI m)), some (.int (-1))] dR_come_30 rfl (Nat.le_of_ble_eq_true rfl) ?_
      refine gh_aload_n C dR_come_31 rfl ?_
      refine gh_iload_n C dR_come_32 rfl ?_
      refine gh_bipush C 16 dR_come_33 (by decide) ?_
      refine gh_callS C [.int (nI m), .int 16] (r_inn l d _ 16 (nI m)) lR_264 wR_in sR_in rfl rfl (Nat.le_of_ble_eq_true rfl) ⟨Nat.le_of_ble_eq_true rfl, Nat.le_of_ble_eq_true rfl⟩ (Nat.le_of_ble_eq_true rfl) (Nat.le_of_ble_eq_true rfl) dR_come_35 (fun v102 g102 k102 => ?_)
      obtain ⟨rfl, e102⟩ := k102
      subst g102
      rw [if_pos (inn_n hm (by decide))]
      refine gh_if_ne C 45 dR_come_38 (by decide) (fun c38 => ?_) (fun c38 => ?_)
      ·
        refine gh_aload_n C dR_come_45 rfl ?_
        refine gh_iload_n C dR_come_46 rfl ?_
        refine gh_callV C [.int (nI m)] (r_isLatest l d _ h0.1 m hm hE) lR_267 wR_isLatest vR_isLatest h0.1.1 rfl rfl rfl (Nat.le_of_ble_eq_true rfl) ⟨Nat.le_of_ble_eq_true rfl, Nat.le_of_ble_eq_true rfl⟩ (Nat.le_of_ble_eq_true rfl) (Nat.le_of_ble_eq_true rfl) dR_come_47 (fun v103 g103 k103 => ?_)
        obtain ⟨rfl, e103⟩ := k103
        subst g103
        rw [if_neg hlat]
        refine gh_if_ne C 68 dR_come_50 (by decide) (fun c50 => ?_) (fun c50 => ?_)
        · exact absurd (by decide) c50
        ·
          refine gh_aload_n C dR_come_53 rfl ?_
          refine rw_get C h0 fR_80 rfl dR_come_54 ?_
          refine gh_iload_n C dR_come_57 rfl ?_
          refine rw_ild C h0 27 16 ⟨rfl, rfl, rfl, by decide⟩ (m) rfl (by omega) dR_come_58 ?_
          refine gh_iconst C (-1) dR_come_59 (by decide) ?_
          refine gh_icmp_ne C 72 dR_come_60 (by decide) (fun c60 => ?_) (fun c60 => ?_)
          ·
            refine gh_iconst C 0 dR_come_72 (by decide) ?_
            refine rw_put C h0 (0) rfl pR_155 (by decide) rfl (by decide) (fun _ => rfl) (fun _ => rfl) dR_come_73 (fun g104 h104 => ?_)
            refine gh_aload_n C dR_come_76 rfl ?_
            refine rw_get C h104 fR_155 rfl dR_come_77 ?_
            refine gh_ti (nI (0)) rfl ?_
            refine gh_if_le C 85 dR_come_80 (by decide) (fun c80 => ?_) (fun c80 => ?_)
            ·
              refine gh_aload_n C dR_come_85 rfl ?_
              refine rw_get C h104 fR_80 rfl dR_come_86 ?_
              refine gh_iload_n C dR_come_89 rfl ?_
              refine rw_ild C h104 27 16 ⟨rfl, rfl, rfl, by decide⟩ (m) rfl (by omega) dR_come_90 ?_
              refine gh_ti (R.2 27 m) rfl ?_
              refine gh_iconst C (-1) dR_come_91 (by decide) ?_
              refine gh_icmp_ne C 104 dR_come_92 (by decide) (fun c92 => ?_) (fun c92 => ?_)
              ·
                refine gh_aload_n C dR_come_104 rfl ?_
                refine gh_iload_n C dR_come_105 rfl ?_
                refine gh_callV C [.int (nI m)] (r_follow l d _ h104.1 m e a D uc hm (by omega) h27 ha hD hD4 hL hrm huc hu20 hP hN7 htold) lR_293 wR_follow vR_follow h104.1.1 rfl rfl rfl (Nat.le_of_ble_eq_true rfl) ⟨Nat.le_of_ble_eq_true rfl, Nat.le_of_ble_eq_true rfl⟩ (Nat.le_of_ble_eq_true rfl) (Nat.le_of_ble_eq_true rfl) dR_come_106 (fun v105 g105 k105 => ?_)
                obtain ⟨rfl, h105⟩ := k105
                replace h105 := h104.tr h105
                refine gh_aload_n C dR_come_109 rfl ?_
                refine rw_get C h105 fR_80 rfl dR_come_110 ?_
                refine gh_iload_n C dR_come_113 rfl ?_
                refine rw_ild C h105 27 16 ⟨rfl, rfl, rfl, by decide⟩ (m) rfl (by omega) dR_come_114 ?_
                refine gh_iret C hQ rfl dR_come_115 ?_
                exact ⟨rfl, h105⟩
              · exact absurd (h27.symm.trans c92) (nI_ne1 (by omega))
            · exact absurd (by decide) c80
          · exact absurd (h27.symm.trans c60) (nI_ne1 (by omega))
      · exact absurd c38 (by decide)
    · exact absurd (h27.symm.trans c18) (nI_ne1 (by omega))
set_option maxRecDepth 100000 in
set_option maxHeartbeats 4000000 in
theorem r_comeX (l : Launch) (d : gh_D) (g : gh_H) {y : Nat → Nat} {R : SR} (hR : rR g y R) (x : Int32) (hE : 1 ≤ R.1 12) (hE60 : R.1 12 ≤ 60) (hP : R.1 35 ≤ 60) (ht : coT R x ≠ 0) : gh_C l d mR_come (rr 2 0 0) [.ref (y 0), .int x] g (fun v g1 => v = some (.int 0) ∧ rQ g g1 y (ri R 0 (coT R x))) := by
  refine gh_of [some (.ref (y 0)), some (.int x), none, none] (by decide) rfl (Nat.le_of_ble_eq_true rfl) (by simp [Value.category]) (fun z C hQ => ?_)
  show gh_W l d z 0 [some (.ref (y 0)), some (.int x), none, none] [] g 0 0
  have h0 := rQ.rf hR
  refine gh_iload_n C dR_come_0 rfl ?_
  refine gh_istore_n C [some (.ref (y 0)), some (.int x), some (.int x), none] dR_come_1 rfl (Nat.le_of_ble_eq_true rfl) ?_
  refine gh_iload_n C dR_come_2 rfl ?_
  refine gh_bipush C 16 dR_come_3 (by decide) ?_
  refine gh_callS C [.int x, .int 16] (r_inn l d _ 16 x) lR_264 wR_in sR_in rfl rfl (Nat.le_of_ble_eq_true rfl) ⟨Nat.le_of_ble_eq_true rfl, Nat.le_of_ble_eq_true rfl⟩ (Nat.le_of_ble_eq_true rfl) (Nat.le_of_ble_eq_true rfl) dR_come_5 (fun v101 g101 k101 => ?_)
  obtain ⟨rfl, e101⟩ := k101
  subst g101
  refine gh_if_eq C 29 dR_come_8 (by decide) (fun c8 => ?_) (fun c8 => ?_)
  ·
    have e8 : ¬ inn 16 x = true := fun h => by rw [if_pos h] at c8; exact absurd c8 (by decide)
    have hz : coT R x = 1 := if_neg e8
    refine gh_iconst C (-1) dR_come_29 (by decide) ?_
    refine gh_istore_n C [some (.ref (y 0)), some (.int x), some (.int x), some (.int (-1))] dR_come_30 rfl (Nat.le_of_ble_eq_true rfl) ?_
    refine gh_aload_n C dR_come_31 rfl ?_
    refine gh_iload_n C dR_come_32 rfl ?_
    refine gh_bipush C 16 dR_come_33 (by decide) ?_
    refine gh_callS C [.int x, .int 16] (r_inn l d _ 16 x) lR_264 wR_in sR_in rfl rfl (Nat.le_of_ble_eq_true rfl) ⟨Nat.le_of_ble_eq_true rfl, Nat.le_of_ble_eq_true rfl⟩ (Nat.le_of_ble_eq_true rfl) (Nat.le_of_ble_eq_true rfl) dR_come_35 (fun v102 g102 k102 => ?_)
    obtain ⟨rfl, e102⟩ := k102
    subst g102
    refine gh_if_ne C 45 dR_come_38 (by decide) (fun c38 => ?_) (fun c38 => ?_)
    · exact absurd (if_neg e8) c38
    ·
      refine gh_iconst C 1 dR_come_41 (by decide) ?_
      refine gh_goto C 73 dR_come_42 (by decide) ?_
      refine rw_put C h0 (1) rfl pR_155 (by decide) rfl (by decide) (fun _ => rfl) (fun _ => rfl) dR_come_73 (fun g103 h103 => ?_)
      refine gh_aload_n C dR_come_76 rfl ?_
      refine rw_get C h103 fR_155 rfl dR_come_77 ?_
      refine gh_ti (nI (1)) rfl ?_
      refine gh_if_le C 85 dR_come_80 (by decide) (fun c80 => ?_) (fun c80 => ?_)
      · exact absurd c80 (by decide)
      ·
        refine gh_iconst C 0 dR_come_83 (by decide) ?_
        refine gh_iret C hQ rfl dR_come_84 ?_
        exact ⟨rfl, by rw [hz]; exact h103⟩
  ·
    have e8 : inn 16 x = true := by
      by_cases h : inn 16 x = true
      · exact h
      · rw [if_neg h] at c8; exact absurd rfl c8
    obtain ⟨m, hm, hx⟩ := inn_of (by decide) e8
    have hcl : x.toNatClampNeg = m := by rw [hx]; exact nI_clamp (by omega)
    have hcl2 : inn 16 (nI m) = true := inn_n hm (by decide)
    refine gh_aload_n C dR_come_11 rfl ?_
    refine rw_get C h0 fR_80 rfl dR_come_12 ?_
    refine gh_iload_n C dR_come_15 rfl ?_
    refine rw_ild C h0 27 16 ⟨rfl, rfl, rfl, by decide⟩ (m) hx (by omega) dR_come_16 ?_
    refine gh_iconst C (-1) dR_come_17 (by decide) ?_
    refine gh_icmp_ne C 29 dR_come_18 (by decide) (fun c18 => ?_) (fun c18 => ?_)
    ·
      have hz2 : ¬ (R.2 27 m = -1 ∧ np R m (R.1 35) = none) := fun h => c18 h.1
      refine gh_iconst C (-1) dR_come_29 (by decide) ?_
      refine gh_istore_n C [some (.ref (y 0)), some (.int x), some (.int x), some (.int (-1))] dR_come_30 rfl (Nat.le_of_ble_eq_true rfl) ?_
      refine gh_aload_n C dR_come_31 rfl ?_
      refine gh_iload_n C dR_come_32 rfl ?_
      refine gh_bipush C 16 dR_come_33 (by decide) ?_
      refine gh_callS C [.int x, .int 16] (r_inn l d _ 16 x) lR_264 wR_in sR_in rfl rfl (Nat.le_of_ble_eq_true rfl) ⟨Nat.le_of_ble_eq_true rfl, Nat.le_of_ble_eq_true rfl⟩ (Nat.le_of_ble_eq_true rfl) (Nat.le_of_ble_eq_true rfl) dR_come_35 (fun v104 g104 k104 => ?_)
      obtain ⟨rfl, e104⟩ := k104
      subst g104
      refine gh_if_ne C 45 dR_come_38 (by decide) (fun c38 => ?_) (fun c38 => ?_)
      ·
        refine gh_aload_n C dR_come_45 rfl ?_
        refine gh_iload_n C dR_come_46 rfl ?_
        refine gh_callV C [.int x] ((by rw [hx]; exact r_isLatest l d _ h0.1 m hm hE : gh_C l d mR_isLatest (rr 0 0 0) [.ref (y 0), .int x] _ (fun v g1 => v = some (.int (if latR R m = true then 1 else 0)) ∧ g1 = _))) lR_267 wR_isLatest vR_isLatest h0.1.1 rfl rfl rfl (Nat.le_of_ble_eq_true rfl) ⟨Nat.le_of_ble_eq_true rfl, Nat.le_of_ble_eq_true rfl⟩ (Nat.le_of_ble_eq_true rfl) (Nat.le_of_ble_eq_true rfl) dR_come_47 (fun v105 g105 k105 => ?_)
        obtain ⟨rfl, e105⟩ := k105
        subst g105
        refine gh_if_ne C 68 dR_come_50 (by decide) (fun c50 => ?_) (fun c50 => ?_)
        ·
          have e50 : latR R m = true := by
            by_cases h : latR R m = true
            · exact h
            · rw [if_neg h] at c50; exact absurd rfl c50
          have hz : coT R x = 2 := by unfold coT; rw [if_pos e8, hcl]; exact if_pos (Or.inl e50)
          refine gh_iconst C 2 dR_come_68 (by decide) ?_
          refine gh_goto C 73 dR_come_69 (by decide) ?_
          refine rw_put C h0 (2) rfl pR_155 (by decide) rfl (by decide) (fun _ => rfl) (fun _ => rfl) dR_come_73 (fun g106 h106 => ?_)
          refine gh_aload_n C dR_come_76 rfl ?_
          refine rw_get C h106 fR_155 rfl dR_come_77 ?_
          refine gh_ti (nI (2)) rfl ?_
          refine gh_if_le C 85 dR_come_80 (by decide) (fun c80 => ?_) (fun c80 => ?_)
          · exact absurd c80 (by decide)
          ·
            refine gh_iconst C 0 dR_come_83 (by decide) ?_
            refine gh_iret C hQ rfl dR_come_84 ?_
            exact ⟨rfl, by rw [hz]; exact h106⟩
        ·
          have e50 : ¬ latR R m = true := fun h => by rw [if_pos h] at c50; exact absurd c50 (by decide)
          refine gh_aload_n C dR_come_53 rfl ?_
          refine rw_get C h0 fR_80 rfl dR_come_54 ?_
          refine gh_iload_n C dR_come_57 rfl ?_
          refine rw_ild C h0 27 16 ⟨rfl, rfl, rfl, by decide⟩ (m) hx (by omega) dR_come_58 ?_
          refine gh_iconst C (-1) dR_come_59 (by decide) ?_
          refine gh_icmp_ne C 72 dR_come_60 (by decide) (fun c60 => ?_) (fun c60 => ?_)
          · exact absurd (show coT R x = 0 by unfold coT; rw [if_pos e8, hcl]; exact if_neg (fun h => h.elim e50 hz2)) ht
          · exact absurd c60 c18
      · rw [if_pos e8] at c38
        exact absurd c38 (by decide)
    ·
      skip
      refine gh_aload_n C dR_come_21 rfl ?_
      refine gh_iload_n C dR_come_22 rfl ?_
      refine gh_callV C [.int x] ((by rw [hx]; exact r_nextPackage l d _ h0.1 m hP : gh_C l d mR_nextPackage (rr 0 0 0) [.ref (y 0), .int x] _ (fun v g1 => v = some (.int (oJ (np R m (R.1 35)))) ∧ g1 = _))) lR_287 wR_nextPackage vR_nextPackage h0.1.1 rfl rfl rfl (Nat.le_of_ble_eq_true rfl) ⟨Nat.le_of_ble_eq_true rfl, Nat.le_of_ble_eq_true rfl⟩ (Nat.le_of_ble_eq_true rfl) (Nat.le_of_ble_eq_true rfl) dR_come_23 (fun v107 g107 k107 => ?_)
      obtain ⟨rfl, e107⟩ := k107
      subst g107
      refine gh_goto C 30 dR_come_26 (by decide) ?_
      refine gh_istore_n C [some (.ref (y 0)), some (.int x), some (.int x), some (.int (oJ (np R m (R.1 35))))] dR_come_30 rfl (Nat.le_of_ble_eq_true rfl) ?_
      refine gh_aload_n C dR_come_31 rfl ?_
      refine gh_iload_n C dR_come_32 rfl ?_
      refine gh_bipush C 16 dR_come_33 (by decide) ?_
      refine gh_callS C [.int x, .int 16] (r_inn l d _ 16 x) lR_264 wR_in sR_in rfl rfl (Nat.le_of_ble_eq_true rfl) ⟨Nat.le_of_ble_eq_true rfl, Nat.le_of_ble_eq_true rfl⟩ (Nat.le_of_ble_eq_true rfl) (Nat.le_of_ble_eq_true rfl) dR_come_35 (fun v108 g108 k108 => ?_)
      obtain ⟨rfl, e108⟩ := k108
      subst g108
      refine gh_if_ne C 45 dR_come_38 (by decide) (fun c38 => ?_) (fun c38 => ?_)
      ·
        refine gh_aload_n C dR_come_45 rfl ?_
        refine gh_iload_n C dR_come_46 rfl ?_
        refine gh_callV C [.int x] ((by rw [hx]; exact r_isLatest l d _ h0.1 m hm hE : gh_C l d mR_isLatest (rr 0 0 0) [.ref (y 0), .int x] _ (fun v g1 => v = some (.int (if latR R m = true then 1 else 0)) ∧ g1 = _))) lR_267 wR_isLatest vR_isLatest h0.1.1 rfl rfl rfl (Nat.le_of_ble_eq_true rfl) ⟨Nat.le_of_ble_eq_true rfl, Nat.le_of_ble_eq_true rfl⟩ (Nat.le_of_ble_eq_true rfl) (Nat.le_of_ble_eq_true rfl) dR_come_47 (fun v109 g109 k109 => ?_)
        obtain ⟨rfl, e109⟩ := k109
        subst g109
        refine gh_if_ne C 68 dR_come_50 (by decide) (fun c50 => ?_) (fun c50 => ?_)
        ·
          have e50 : latR R m = true := by
            by_cases h : latR R m = true
            · exact h
            · rw [if_neg h] at c50; exact absurd rfl c50
          have hz : coT R x = 2 := by unfold coT; rw [if_pos e8, hcl]; exact if_pos (Or.inl e50)
          refine gh_iconst C 2 dR_come_68 (by decide) ?_
          refine gh_goto C 73 dR_come_69 (by decide) ?_
          refine rw_put C h0 (2) rfl pR_155 (by decide) rfl (by decide) (fun _ => rfl) (fun _ => rfl) dR_come_73 (fun g110 h110 => ?_)
          refine gh_aload_n C dR_come_76 rfl ?_
          refine rw_get C h110 fR_155 rfl dR_come_77 ?_
          refine gh_ti (nI (2)) rfl ?_
          refine gh_if_le C 85 dR_come_80 (by decide) (fun c80 => ?_) (fun c80 => ?_)
          · exact absurd c80 (by decide)
          ·
            refine gh_iconst C 0 dR_come_83 (by decide) ?_
            refine gh_iret C hQ rfl dR_come_84 ?_
            exact ⟨rfl, by rw [hz]; exact h110⟩
        ·
          have e50 : ¬ latR R m = true := fun h => by rw [if_pos h] at c50; exact absurd c50 (by decide)
          refine gh_aload_n C dR_come_53 rfl ?_
          refine rw_get C h0 fR_80 rfl dR_come_54 ?_
          refine gh_iload_n C dR_come_57 rfl ?_
          refine rw_ild C h0 27 16 ⟨rfl, rfl, rfl, by decide⟩ (m) hx (by omega) dR_come_58 ?_
          refine gh_iconst C (-1) dR_come_59 (by decide) ?_
          refine gh_icmp_ne C 72 dR_come_60 (by decide) (fun c60 => ?_) (fun c60 => ?_)
          · exact absurd c18 c60
          ·
            refine gh_iload_n C dR_come_63 rfl ?_
            refine gh_iconst C (-1) dR_come_64 (by decide) ?_
            refine gh_icmp_ne C 72 dR_come_65 (by decide) (fun c65 => ?_) (fun c65 => ?_)
            · exact absurd (show coT R x = 0 by
                unfold coT; rw [if_pos e8, hcl]
                refine if_neg (fun h => h.elim e50 (fun h2 => c65 ?_))
                rw [h2.2]; rfl) ht
            ·
              have hnn : np R m (R.1 35) = none := by
                cases hx9 : np R m (R.1 35) with
                | none => rfl
                | some p =>
                  rw [hx9] at c65
                  have := np_lt R m _ p hx9
                  exact absurd c65 (nI_ne1 (by omega))
              have hz : coT R x = 2 := by unfold coT; rw [if_pos e8, hcl]; exact if_pos (Or.inr ⟨c18, hnn⟩)
              refine gh_iconst C 2 dR_come_68 (by decide) ?_
              refine gh_goto C 73 dR_come_69 (by decide) ?_
              refine rw_put C h0 (2) rfl pR_155 (by decide) rfl (by decide) (fun _ => rfl) (fun _ => rfl) dR_come_73 (fun g111 h111 => ?_)
              refine gh_aload_n C dR_come_76 rfl ?_
              refine rw_get C h111 fR_155 rfl dR_come_77 ?_
              refine gh_ti (nI (2)) rfl ?_
              refine gh_if_le C 85 dR_come_80 (by decide) (fun c80 => ?_) (fun c80 => ?_)
              · exact absurd c80 (by decide)
              ·
                refine gh_iconst C 0 dR_come_83 (by decide) ?_
                refine gh_iret C hQ rfl dR_come_84 ?_
                exact ⟨rfl, by rw [hz]; exact h111⟩
      · rw [if_pos e8] at c38
        exact absurd c38 (by decide)
def tkR (R : SR) (L : List Int32) : SR := L.foldl (fun T s => ra T 5 (upd (T.2 5) s.toNatClampNeg 1)) R
def cpR (R : SR) (m uc : Nat) : SR := tkR (gaR (ri R 0 0) m uc) (lst (gaR (ri R 0 0) m uc))
theorem tkR_f (R : SR) (L : List Int32) : (tkR R L).1 = R.1 ∧ ∀ f, f ≠ 5 → (tkR R L).2 f = R.2 f := by
  unfold tkR
  induction L generalizing R with
  | nil => exact ⟨rfl, fun _ _ => rfl⟩
  | cons s L ih =>
    have h := ih (ra R 5 (upd (R.2 5) s.toNatClampNeg 1))
    exact ⟨h.1, fun f hf => (h.2 f hf).trans (by simp [ra, hf])⟩
set_option maxRecDepth 100000 in
set_option maxHeartbeats 4000000 in
theorem r_compromise (l : Launch) (d : gh_D) (g : gh_H) {y : Nat → Nat} {R : SR} (hR : rR g y R) (m uc : Nat) (hm : m < 16) (hat : R.2 32 m ≠ 0 → ∃ e, e < 60 ∧ R.2 27 m = nI e) (huc : R.2 31 m = nI uc) (hu20 : uc ≤ 20) (hP : R.1 35 ≤ 60) (hin : ∀ s, s ∈ lst (gaR (ri R 0 0) m uc) → ∃ j, j < 2600 ∧ s = nI j) : gh_C l d mR_compromise (rr 2 0 0) [.ref (y 0), .int (nI m)] g (fun v g1 => v = some (.int (nI (lst (gaR (ri R 0 0) m uc)).length)) ∧ rQ g g1 y (cpR R m uc)) := by
  refine gh_of [some (.ref (y 0)), some (.int (nI m)), none] (by decide) rfl (Nat.le_of_ble_eq_true rfl) (by simp [Value.category]) (fun z C hQ => ?_)
  show gh_W l d z 0 [some (.ref (y 0)), some (.int (nI m)), none] [] g 0 0
  have h0 := rQ.rf hR
  obtain ⟨G, eG⟩ : ∃ G, G = gaR (ri R 0 0) m uc := ⟨_, rfl⟩
  obtain ⟨L, eL⟩ : ∃ L, L = lst G := ⟨_, rfl⟩
  rw [← eG, ← eL] at hin
  have lL : L.length = G.1 46 := by rw [eL]; simp [lst]
  have hg := hF_f (ri (ri R 0 0) 46 0) (cnd (ri R 0 0) m uc)
  have cl := cnd_len (ri R 0 0) m hu20 hP
  have hg46 : G.1 46 ≤ 173 := by
    rw [eG]
    have e0 : (ri (ri R 0 0) 46 0).1 46 = 0 := by simp [ri]
    have := hg.2.2
    unfold gaR
    omega
  have loop : ∀ (c i : Nat) (g1 : gh_H), i + c = L.length → rQ g g1 y (tkR G (L.take i)) → gh_W l d z 34 [some (.ref (y 0)), some (.int (nI m)), some (.int (nI i))] [] g1 0 0 := by
    intro c
    induction c with
    | zero =>
      intro i g1 hi h1
      have hi : i = L.length := by omega
      subst hi
      rw [List.take_length] at h1
      have sT := tkR_f G L
      obtain ⟨T, eT⟩ : ∃ T, T = tkR G L := ⟨_, rfl⟩
      rw [← eT] at h1 sT
      have e46 : T.1 46 = L.length := by rw [sT.1, lL]
      refine gh_iload_n C dR_compromise_34 rfl ?_
      refine gh_aload_n C dR_compromise_35 rfl ?_
      refine rw_get C h1 fR_183 rfl dR_compromise_36 ?_
      refine gh_ti (nI L.length) (by rw [e46]) ?_
      refine gh_icmp_ge C 60 dR_compromise_39 (by decide) (fun c39 => ?_) (fun c39 => ?_)
      ·
        refine gh_aload_n C dR_compromise_60 rfl ?_
        refine rw_get C h1 fR_183 rfl dR_compromise_61 ?_
        refine gh_ti (nI L.length) (by rw [e46]) ?_
        refine gh_iret C hQ rfl dR_compromise_64 ?_
        exact ⟨by rw [← eG, ← eL], by unfold cpR; rw [← eG, ← eL, ← eT]; exact h1⟩
      · exact absurd (nI_le (Nat.le_refl _) (by omega)) c39
    | succ c ih =>
      intro i g1 hi h1
      have hlt : i < L.length := by omega
      have sT := tkR_f G (L.take i)
      obtain ⟨s, hs⟩ : ∃ s, L[i]? = some s := ⟨_, List.getElem?_eq_getElem hlt⟩
      obtain ⟨j, hj, hsj⟩ := hin s (List.mem_of_getElem? hs)
      have hcl : s.toNatClampNeg = j := by rw [hsj]; exact nI_clamp (by omega)
      have eN : tkR G (L.take (i + 1)) = ra (tkR G (L.take i)) 5 (upd ((tkR G (L.take i)).2 5) j 1) := by
        unfold tkR
        rw [List.take_add_one, hs, List.foldl_append]
        simp only [Option.toList, List.foldl_cons, List.foldl_nil, hcl]
      obtain ⟨T, eT⟩ : ∃ T, T = tkR G (L.take i) := ⟨_, rfl⟩
      rw [← eT] at h1 sT eN
      have e46 : T.1 46 = L.length := by rw [sT.1, lL]
      have e47 : T.2 47 i = nI j := by
        rw [sT.2 47 (by decide), ← hsj]
        have h9 : L[i]? = some (G.2 47 i) := by
          rw [eL]; unfold lst
          rw [List.getElem?_map, List.getElem?_range (by omega)]
          rfl
        rw [hs] at h9
        exact (Option.some.inj h9).symm
      refine gh_iload_n C dR_compromise_34 rfl ?_
      refine gh_aload_n C dR_compromise_35 rfl ?_
      refine rw_get C h1 fR_183 rfl dR_compromise_36 ?_
      refine gh_ti (nI L.length) (by rw [e46]) ?_
      refine gh_icmp_ge C 60 dR_compromise_39 (by decide) (fun c39 => ?_) (fun c39 => ?_)
      · exact absurd c39 (nI_ge hlt (by omega))
      ·
        refine gh_aload_n C dR_compromise_42 rfl ?_
        refine rw_get C h1 fR_19 rfl dR_compromise_43 ?_
        refine gh_aload_n C dR_compromise_46 rfl ?_
        refine rw_get C h1 fR_131 rfl dR_compromise_47 ?_
        refine gh_iload_n C dR_compromise_50 rfl ?_
        refine rw_ild C h1 47 256 ⟨rfl, rfl, rfl, by decide⟩ (i) rfl (by omega) dR_compromise_51 ?_
        refine gh_ti (nI j) e47 ?_
        refine gh_iconst C 1 dR_compromise_52 (by decide) ?_
        refine rw_zst C h1 5 2600 ⟨rfl, rfl, rfl, by decide⟩ (j) rfl (by omega) rfl dR_compromise_53 (fun g101 h101 => ?_)
        have h101 : rQ g g101 y (ra T 5 (upd (T.2 5) j 1)) := h101
        refine gh_iinc C (nI (i + 1)) [some (.ref (y 0)), some (.int (nI m)), some (.int (nI (i + 1)))] dR_compromise_54 rfl (gh_inc i) rfl ?_
        refine gh_goto C 34 dR_compromise_57 (by decide) ?_
        exact ih (i + 1) _ (by omega) (by rw [eN]; exact h101)
  refine gh_aload_n C dR_compromise_0 rfl ?_
  refine gh_iload_n C dR_compromise_1 rfl ?_
  refine gh_bipush C 16 dR_compromise_2 (by decide) ?_
  refine gh_callS C [.int (nI m), .int 16] (r_inn l d _ 16 (nI m)) lR_264 wR_in sR_in rfl rfl (Nat.le_of_ble_eq_true rfl) ⟨Nat.le_of_ble_eq_true rfl, Nat.le_of_ble_eq_true rfl⟩ (Nat.le_of_ble_eq_true rfl) (Nat.le_of_ble_eq_true rfl) dR_compromise_4 (fun v101 g101 k101 => ?_)
  obtain ⟨rfl, e101⟩ := k101
  subst g101
  rw [if_pos (inn_n hm (by decide))]
  refine gh_if_ne C 14 dR_compromise_7 (by decide) (fun c7 => ?_) (fun c7 => ?_)
  ·
    refine gh_iconst C 0 dR_compromise_14 (by decide) ?_
    refine rw_put C h0 (0) rfl pR_155 (by decide) rfl (by decide) (fun _ => rfl) (fun _ => rfl) dR_compromise_15 (fun g102 h102 => ?_)
    refine gh_aload_n C dR_compromise_18 rfl ?_
    refine rw_get C h102 fR_155 rfl dR_compromise_19 ?_
    refine gh_ti (nI (0)) rfl ?_
    refine gh_if_le C 27 dR_compromise_22 (by decide) (fun c22 => ?_) (fun c22 => ?_)
    ·
      refine gh_aload_n C dR_compromise_27 rfl ?_
      refine gh_iload_n C dR_compromise_28 rfl ?_
      refine gh_callV C [.int (nI m)] (r_gather l d _ h102.1 m uc hm hat huc hu20 hP) lR_281 wR_gather vR_gather h102.1.1 rfl rfl rfl (Nat.le_of_ble_eq_true rfl) ⟨Nat.le_of_ble_eq_true rfl, Nat.le_of_ble_eq_true rfl⟩ (Nat.le_of_ble_eq_true rfl) (Nat.le_of_ble_eq_true rfl) dR_compromise_29 (fun v103 g103 k103 => ?_)
      obtain ⟨rfl, h103⟩ := k103
      replace h103 := h102.tr h103
      refine gh_iconst C 0 dR_compromise_32 (by decide) ?_
      refine gh_istore_n C [some (.ref (y 0)), some (.int (nI m)), some (.int 0)] dR_compromise_33 rfl (Nat.le_of_ble_eq_true rfl) ?_
      exact loop L.length 0 _ (by omega) (by rw [List.take_zero, eG]; exact h103)
    · exact absurd (by decide) c22
  · exact absurd c7 (by decide)
set_option maxRecDepth 100000 in
set_option maxHeartbeats 4000000 in
theorem r_compromiseX (l : Launch) (d : gh_D) (g : gh_H) {y : Nat → Nat} {R : SR} (hR : rR g y R) (x : Int32) (hx : ¬ inn 16 x = true) : gh_C l d mR_compromise (rr 1 0 0) [.ref (y 0), .int x] g (fun v g1 => v = some (.int 0) ∧ rQ g g1 y (ri R 0 1)) := by
  refine gh_of [some (.ref (y 0)), some (.int x), none] (by decide) rfl (Nat.le_of_ble_eq_true rfl) (by simp [Value.category]) (fun z C hQ => ?_)
  show gh_W l d z 0 [some (.ref (y 0)), some (.int x), none] [] g 0 0
  have h0 := rQ.rf hR
  refine gh_aload_n C dR_compromise_0 rfl ?_
  refine gh_iload_n C dR_compromise_1 rfl ?_
  refine gh_bipush C 16 dR_compromise_2 (by decide) ?_
  refine gh_callS C [.int x, .int 16] (r_inn l d _ 16 x) lR_264 wR_in sR_in rfl rfl (Nat.le_of_ble_eq_true rfl) ⟨Nat.le_of_ble_eq_true rfl, Nat.le_of_ble_eq_true rfl⟩ (Nat.le_of_ble_eq_true rfl) (Nat.le_of_ble_eq_true rfl) dR_compromise_4 (fun v101 g101 k101 => ?_)
  obtain ⟨rfl, e101⟩ := k101
  subst g101
  rw [if_neg hx]
  refine gh_if_ne C 14 dR_compromise_7 (by decide) (fun c7 => ?_) (fun c7 => ?_)
  · exact absurd (by decide) c7
  ·
    refine gh_iconst C 1 dR_compromise_10 (by decide) ?_
    refine gh_goto C 15 dR_compromise_11 (by decide) ?_
    refine rw_put C h0 (1) rfl pR_155 (by decide) rfl (by decide) (fun _ => rfl) (fun _ => rfl) dR_compromise_15 (fun g102 h102 => ?_)
    refine gh_aload_n C dR_compromise_18 rfl ?_
    refine rw_get C h102 fR_155 rfl dR_compromise_19 ?_
    refine gh_ti (nI (1)) rfl ?_
    refine gh_if_le C 27 dR_compromise_22 (by decide) (fun c22 => ?_) (fun c22 => ?_)
    · exact absurd c22 (by decide)
    ·
      refine gh_iconst C 0 dR_compromise_25 (by decide) ?_
      refine gh_iret C hQ rfl dR_compromise_26 ?_
      exact ⟨rfl, h102⟩
set_option maxRecDepth 100000 in
set_option maxHeartbeats 4000000 in
theorem r_epochs (l : Launch) (d : gh_D) (g : gh_H) {y : Nat → Nat} {R : SR} (hR : rR g y R)  : gh_C l d mR_epochs (rr 0 0 0) [.ref (y 0)] g (fun v g1 => v = some (.int (nI (R.1 12))) ∧ rQ g g1 y (ri R 0 0)) := by
  refine gh_of [some (.ref (y 0))] (by decide) rfl (Nat.le_of_ble_eq_true rfl) (by simp [Value.category]) (fun z C hQ => ?_)
  show gh_W l d z 0 [some (.ref (y 0))] [] g 0 0
  have h0 := rQ.rf hR
  refine gh_aload_n C dR_epochs_0 rfl ?_
  refine gh_iconst C 0 dR_epochs_1 (by decide) ?_
  refine rw_put C h0 (0) rfl pR_155 (by decide) rfl (by decide) (fun _ => rfl) (fun _ => rfl) dR_epochs_2 (fun g101 h101 => ?_)
  refine gh_aload_n C dR_epochs_5 rfl ?_
  refine rw_get C h101 fR_151 rfl dR_epochs_6 ?_
  refine gh_ti (nI (R.1 12)) rfl ?_
  refine gh_iret C hQ rfl dR_epochs_9 ?_
  exact ⟨rfl, h101⟩
set_option maxRecDepth 100000 in
set_option maxHeartbeats 4000000 in
theorem r_waiting (l : Launch) (d : gh_D) (g : gh_H) {y : Nat → Nat} {R : SR} (hR : rR g y R)  : gh_C l d mR_waiting (rr 0 0 0) [.ref (y 0)] g (fun v g1 => v = some (.int (nI (R.1 42))) ∧ rQ g g1 y (ri R 0 0)) := by
  refine gh_of [some (.ref (y 0))] (by decide) rfl (Nat.le_of_ble_eq_true rfl) (by simp [Value.category]) (fun z C hQ => ?_)
  show gh_W l d z 0 [some (.ref (y 0))] [] g 0 0
  have h0 := rQ.rf hR
  refine gh_aload_n C dR_waiting_0 rfl ?_
  refine gh_iconst C 0 dR_waiting_1 (by decide) ?_
  refine rw_put C h0 (0) rfl pR_155 (by decide) rfl (by decide) (fun _ => rfl) (fun _ => rfl) dR_waiting_2 (fun g101 h101 => ?_)
  refine gh_aload_n C dR_waiting_5 rfl ?_
  refine rw_get C h101 fR_195 rfl dR_waiting_6 ?_
  refine gh_ti (nI (R.1 42)) rfl ?_
  refine gh_iret C hQ rfl dR_waiting_9 ?_
  exact ⟨rfl, h101⟩
def rHas (R : SR) (x : Int32) : Bool := inn 16 x && decide (R.2 32 x.toNatClampNeg ≠ 0)
def rEp (R : SR) (x w : Int32) : Int32 := if inn (R.1 12) x = true then (if w = 0 then R.2 13 x.toNatClampNeg else if w = 1 then R.2 15 x.toNatClampNeg else if w = 2 then R.2 16 x.toNatClampNeg else if w = 3 then R.2 17 x.toNatClampNeg else if w = 4 then R.2 18 x.toNatClampNeg else if w = 5 then R.2 19 x.toNatClampNeg else if w = 6 then R.2 20 x.toNatClampNeg else -1) else -1
def rMem (R : SR) (x w : Int32) (n : Nat) : Int32 := if inn 16 x = true then (if w = 0 then R.2 27 x.toNatClampNeg else if w = 1 then R.2 28 x.toNatClampNeg else if w = 2 then nI n else if w = 3 then R.2 30 x.toNatClampNeg else -1) else -1
set_option maxRecDepth 100000 in
set_option maxHeartbeats 4000000 in
theorem r_has (l : Launch) (d : gh_D) (g : gh_H) {y : Nat → Nat} {R : SR} (hR : rR g y R) (x : Int32) : gh_C l d mR_has (rr 1 0 0) [.ref (y 0), .int x] g (fun v g1 => v = some (.int (if rHas R x = true then 1 else 0)) ∧ rQ g g1 y (ri R 0 0)) := by
  refine gh_of [some (.ref (y 0)), some (.int x)] (by decide) rfl (Nat.le_of_ble_eq_true rfl) (by simp [Value.category]) (fun z C hQ => ?_)
  show gh_W l d z 0 [some (.ref (y 0)), some (.int x)] [] g 0 0
  have h0 := rQ.rf hR
  refine gh_aload_n C dR_has_0 rfl ?_
  refine gh_iconst C 0 dR_has_1 (by decide) ?_
  refine rw_put C h0 (0) rfl pR_155 (by decide) rfl (by decide) (fun _ => rfl) (fun _ => rfl) dR_has_2 (fun g101 h101 => ?_)
  refine gh_iload_n C dR_has_5 rfl ?_
  refine gh_bipush C 16 dR_has_6 (by decide) ?_
  refine gh_callS C [.int x, .int 16] (r_inn l d _ 16 x) lR_264 wR_in sR_in rfl rfl (Nat.le_of_ble_eq_true rfl) ⟨Nat.le_of_ble_eq_true rfl, Nat.le_of_ble_eq_true rfl⟩ (Nat.le_of_ble_eq_true rfl) (Nat.le_of_ble_eq_true rfl) dR_has_8 (fun v102 g102 k102 => ?_)
  obtain ⟨rfl, e102⟩ := k102
  subst g102
  refine gh_if_eq C 27 dR_has_11 (by decide) (fun c11 => ?_) (fun c11 => ?_)
  ·
    have e11 : ¬ inn 16 x = true := fun h => by rw [if_pos h] at c11; exact absurd c11 (by decide)
    have hz : ¬ rHas R x = true := by simp [rHas, e11]
    refine gh_iconst C 0 dR_has_27 (by decide) ?_
    refine gh_zret C hQ rfl (by simp) dR_has_28 ?_
    first | exact ⟨by rw [if_pos hz], h101⟩ | exact ⟨by rw [if_neg hz], h101⟩
  ·
    have e11 : inn 16 x = true := by
      by_cases h : inn 16 x = true
      · exact h
      · rw [if_neg h] at c11; exact absurd rfl c11
    obtain ⟨m, hm, hx⟩ := inn_of (by decide) e11
    have hcl : x.toNatClampNeg = m := by rw [hx]; exact nI_clamp (by omega)
    refine gh_aload_n C dR_has_14 rfl ?_
    refine rw_get C h101 fR_95 rfl dR_has_15 ?_
    refine gh_iload_n C dR_has_18 rfl ?_
    refine rw_zld C h101 32 16 ⟨rfl, rfl, rfl, by decide⟩ (m) hx (by omega) dR_has_19 ?_
    refine gh_ti (R.2 32 m) rfl ?_
    refine gh_if_eq C 27 dR_has_20 (by decide) (fun c20 => ?_) (fun c20 => ?_)
    ·
      have hz : ¬ rHas R x = true := by simp [rHas, hcl, c20]
      refine gh_iconst C 0 dR_has_27 (by decide) ?_
      refine gh_zret C hQ rfl (by simp) dR_has_28 ?_
      first | exact ⟨by rw [if_pos hz], h101⟩ | exact ⟨by rw [if_neg hz], h101⟩
    ·
      have hz : rHas R x = true := by simp [rHas, e11, hcl, c20]
      refine gh_iconst C 1 dR_has_23 (by decide) ?_
      refine gh_goto C 28 dR_has_24 (by decide) ?_
      refine gh_zret C hQ rfl (by simp) dR_has_28 ?_
      first | exact ⟨by rw [if_pos hz], h101⟩ | exact ⟨by rw [if_neg hz], h101⟩
set_option maxRecDepth 100000 in
set_option maxHeartbeats 4000000 in
theorem r_epoch (l : Launch) (d : gh_D) (g : gh_H) {y : Nat → Nat} {R : SR} (hR : rR g y R) (x w : Int32) (hE60 : R.1 12 ≤ 60) : gh_C l d mR_epoch (rr 1 0 0) [.ref (y 0), .int x, .int w] g (fun v g1 => v = some (.int (rEp R x w)) ∧ rQ g g1 y (ri R 0 0)) := by
  refine gh_of [some (.ref (y 0)), some (.int x), some (.int w)] (by decide) rfl (Nat.le_of_ble_eq_true rfl) (by simp [Value.category]) (fun z C hQ => ?_)
  show gh_W l d z 0 [some (.ref (y 0)), some (.int x), some (.int w)] [] g 0 0
  have h0 := rQ.rf hR
  refine gh_aload_n C dR_epoch_0 rfl ?_
  refine gh_iconst C 0 dR_epoch_1 (by decide) ?_
  refine rw_put C h0 (0) rfl pR_155 (by decide) rfl (by decide) (fun _ => rfl) (fun _ => rfl) dR_epoch_2 (fun g101 h101 => ?_)
  refine gh_iload_n C dR_epoch_5 rfl ?_
  refine gh_aload_n C dR_epoch_6 rfl ?_
  refine rw_get C h101 fR_151 rfl dR_epoch_7 ?_
  refine gh_ti (nI (R.1 12)) rfl ?_
  refine gh_callS C [.int x, .int (nI (R.1 12))] (r_inn l d _ (R.1 12) x) lR_264 wR_in sR_in rfl rfl (Nat.le_of_ble_eq_true rfl) ⟨Nat.le_of_ble_eq_true rfl, Nat.le_of_ble_eq_true rfl⟩ (Nat.le_of_ble_eq_true rfl) (Nat.le_of_ble_eq_true rfl) dR_epoch_10 (fun v102 g102 k102 => ?_)
  obtain ⟨rfl, e102⟩ := k102
  subst g102
  refine gh_if_ne C 18 dR_epoch_13 (by decide) (fun c13 => ?_) (fun c13 => ?_)
  ·
    have e13 : inn (R.1 12) x = true := by
      by_cases h : inn (R.1 12) x = true
      · exact h
      · rw [if_neg h] at c13; exact absurd rfl c13
    obtain ⟨e, he, hx⟩ := inn_of (by omega) e13
    have hcl : x.toNatClampNeg = e := by rw [hx]; exact nI_clamp (by omega)
    refine gh_iload_n C dR_epoch_18 rfl ?_
    by_cases t19_0 : w = 0
    · rw [t19_0]
      refine gh_tabIn C 60 dR_epoch_19 (by decide) (by decide) rfl (by decide) ?_
      refine gh_aload_n C dR_epoch_60 rfl ?_
      refine rw_get C h101 fR_38 rfl dR_epoch_61 ?_
      refine gh_iload_n C dR_epoch_64 rfl ?_
      refine rw_ild C h101 13 60 ⟨rfl, rfl, rfl, by decide⟩ (e) hx (by omega) dR_epoch_65 ?_
      refine gh_ti (R.2 13 e) rfl ?_
      refine gh_iret C hQ rfl dR_epoch_66 ?_
      exact ⟨by unfold rEp; rw [if_pos e13, hcl]; simp [t19_0], h101⟩
    by_cases t19_1 : w = 1
    · rw [t19_1]
      refine gh_tabIn C 67 dR_epoch_19 (by decide) (by decide) rfl (by decide) ?_
      refine gh_aload_n C dR_epoch_67 rfl ?_
      refine rw_get C h101 fR_44 rfl dR_epoch_68 ?_
      refine gh_iload_n C dR_epoch_71 rfl ?_
      refine rw_ild C h101 15 60 ⟨rfl, rfl, rfl, by decide⟩ (e) hx (by omega) dR_epoch_72 ?_
      refine gh_ti (R.2 15 e) rfl ?_
      refine gh_iret C hQ rfl dR_epoch_73 ?_
      exact ⟨by unfold rEp; rw [if_pos e13, hcl]; simp [t19_1], h101⟩
    by_cases t19_2 : w = 2
    · rw [t19_2]
      refine gh_tabIn C 74 dR_epoch_19 (by decide) (by decide) rfl (by decide) ?_
      refine gh_aload_n C dR_epoch_74 rfl ?_
      refine rw_get C h101 fR_47 rfl dR_epoch_75 ?_
      refine gh_iload_n C dR_epoch_78 rfl ?_
      refine rw_ild C h101 16 60 ⟨rfl, rfl, rfl, by decide⟩ (e) hx (by omega) dR_epoch_79 ?_
      refine gh_ti (R.2 16 e) rfl ?_
      refine gh_iret C hQ rfl dR_epoch_80 ?_
      exact ⟨by unfold rEp; rw [if_pos e13, hcl]; simp [t19_2], h101⟩
    by_cases t19_3 : w = 3
    · rw [t19_3]
      refine gh_tabIn C 81 dR_epoch_19 (by decide) (by decide) rfl (by decide) ?_
      refine gh_aload_n C dR_epoch_81 rfl ?_
      refine rw_get C h101 fR_50 rfl dR_epoch_82 ?_
      refine gh_iload_n C dR_epoch_85 rfl ?_
      refine rw_ild C h101 17 60 ⟨rfl, rfl, rfl, by decide⟩ (e) hx (by omega) dR_epoch_86 ?_
      refine gh_ti (R.2 17 e) rfl ?_
      refine gh_iret C hQ rfl dR_epoch_87 ?_
      exact ⟨by unfold rEp; rw [if_pos e13, hcl]; simp [t19_3], h101⟩
    by_cases t19_4 : w = 4
    · rw [t19_4]
      refine gh_tabIn C 88 dR_epoch_19 (by decide) (by decide) rfl (by decide) ?_
      refine gh_aload_n C dR_epoch_88 rfl ?_
      refine rw_get C h101 fR_53 rfl dR_epoch_89 ?_
      refine gh_iload_n C dR_epoch_92 rfl ?_
      refine rw_ild C h101 18 60 ⟨rfl, rfl, rfl, by decide⟩ (e) hx (by omega) dR_epoch_93 ?_
      refine gh_ti (R.2 18 e) rfl ?_
      refine gh_iret C hQ rfl dR_epoch_94 ?_
      exact ⟨by unfold rEp; rw [if_pos e13, hcl]; simp [t19_4], h101⟩
    by_cases t19_5 : w = 5
    · rw [t19_5]
      refine gh_tabIn C 95 dR_epoch_19 (by decide) (by decide) rfl (by decide) ?_
      refine gh_aload_n C dR_epoch_95 rfl ?_
      refine rw_get C h101 fR_56 rfl dR_epoch_96 ?_
      refine gh_iload_n C dR_epoch_99 rfl ?_
      refine rw_ild C h101 19 60 ⟨rfl, rfl, rfl, by decide⟩ (e) hx (by omega) dR_epoch_100 ?_
      refine gh_ti (R.2 19 e) rfl ?_
      refine gh_iret C hQ rfl dR_epoch_101 ?_
      exact ⟨by unfold rEp; rw [if_pos e13, hcl]; simp [t19_5], h101⟩
    by_cases t19_6 : w = 6
    · rw [t19_6]
      refine gh_tabIn C 102 dR_epoch_19 (by decide) (by decide) rfl (by decide) ?_
      refine gh_aload_n C dR_epoch_102 rfl ?_
      refine rw_get C h101 fR_59 rfl dR_epoch_103 ?_
      refine gh_iload_n C dR_epoch_106 rfl ?_
      refine rw_ild C h101 20 60 ⟨rfl, rfl, rfl, by decide⟩ (e) hx (by omega) dR_epoch_107 ?_
      refine gh_ti (R.2 20 e) rfl ?_
      refine gh_iret C hQ rfl dR_epoch_108 ?_
      exact ⟨by unfold rEp; rw [if_pos e13, hcl]; simp [t19_6], h101⟩
    refine gh_tabOut C 109 dR_epoch_19 (tabO (n := 7) (by decide) (fun j hj hx => ?_)) (by decide) ?_
    · have hj9 : j = 0 ∨ j = 1 ∨ j = 2 ∨ j = 3 ∨ j = 4 ∨ j = 5 ∨ j = 6 := by omega
      rcases hj9 with rfl | rfl | rfl | rfl | rfl | rfl | rfl
      · exact t19_0 hx
      · exact t19_1 hx
      · exact t19_2 hx
      · exact t19_3 hx
      · exact t19_4 hx
      · exact t19_5 hx
      · exact t19_6 hx
    refine gh_iconst C (-1) dR_epoch_109 (by decide) ?_
    refine gh_iret C hQ rfl dR_epoch_110 ?_
    exact ⟨by unfold rEp; rw [if_pos e13, hcl]; simp [t19_0, t19_1, t19_2, t19_3, t19_4, t19_5, t19_6], h101⟩
  ·
    have e13 : ¬ inn (R.1 12) x = true := fun h => by rw [if_pos h] at c13; exact absurd c13 (by decide)
    refine gh_iconst C (-1) dR_epoch_16 (by decide) ?_
    refine gh_iret C hQ rfl dR_epoch_17 ?_
    exact ⟨by unfold rEp; rw [if_neg e13], h101⟩
set_option maxRecDepth 100000 in
set_option maxHeartbeats 4000000 in
theorem r_member (l : Launch) (d : gh_D) (g : gh_H) {y : Nat → Nat} {R : SR} (hR : rR g y R) (x w : Int32) (hw : w ≠ 2) : gh_C l d mR_member (rr 2 0 0) [.ref (y 0), .int x, .int w] g (fun v g1 => v = some (.int (rMem R x w 0)) ∧ rQ g g1 y (ri R 0 0)) := by
  refine gh_of [some (.ref (y 0)), some (.int x), some (.int w)] (by decide) rfl (Nat.le_of_ble_eq_true rfl) (by simp [Value.category]) (fun z C hQ => ?_)
  show gh_W l d z 0 [some (.ref (y 0)), some (.int x), some (.int w)] [] g 0 0
  have h0 := rQ.rf hR
  refine gh_aload_n C dR_member_0 rfl ?_
  refine gh_iconst C 0 dR_member_1 (by decide) ?_
  refine rw_put C h0 (0) rfl pR_155 (by decide) rfl (by decide) (fun _ => rfl) (fun _ => rfl) dR_member_2 (fun g101 h101 => ?_)
  refine gh_iload_n C dR_member_5 rfl ?_
  refine gh_bipush C 16 dR_member_6 (by decide) ?_
  refine gh_callS C [.int x, .int 16] (r_inn l d _ 16 x) lR_264 wR_in sR_in rfl rfl (Nat.le_of_ble_eq_true rfl) ⟨Nat.le_of_ble_eq_true rfl, Nat.le_of_ble_eq_true rfl⟩ (Nat.le_of_ble_eq_true rfl) (Nat.le_of_ble_eq_true rfl) dR_member_8 (fun v102 g102 k102 => ?_)
  obtain ⟨rfl, e102⟩ := k102
  subst g102
  refine gh_if_ne C 16 dR_member_11 (by decide) (fun c11 => ?_) (fun c11 => ?_)
  ·
    have e11 : inn 16 x = true := by
      by_cases h : inn 16 x = true
      · exact h
      · rw [if_neg h] at c11; exact absurd rfl c11
    obtain ⟨m, hm, hx⟩ := inn_of (by decide) e11
    have hcl : x.toNatClampNeg = m := by rw [hx]; exact nI_clamp (by omega)
    refine gh_iload_n C dR_member_16 rfl ?_
    refine gh_iconst C 2 dR_member_17 (by decide) ?_
    refine gh_icmp_ne C 26 dR_member_18 (by decide) (fun c18 => ?_) (fun c18 => ?_)
    ·
      refine gh_iload_n C dR_member_26 rfl ?_
      refine gh_if_ne C 39 dR_member_27 (by decide) (fun c27 => ?_) (fun c27 => ?_)
      ·
        refine gh_iload_n C dR_member_39 rfl ?_
        refine gh_iconst C 1 dR_member_40 (by decide) ?_
        refine gh_icmp_ne C 53 dR_member_41 (by decide) (fun c41 => ?_) (fun c41 => ?_)
        ·
          refine gh_iload_n C dR_member_53 rfl ?_
          refine gh_iconst C 2 dR_member_54 (by decide) ?_
          refine gh_icmp_ne C 65 dR_member_55 (by decide) (fun c55 => ?_) (fun c55 => ?_)
          ·
            refine gh_iload_n C dR_member_65 rfl ?_
            refine gh_iconst C 3 dR_member_66 (by decide) ?_
            refine gh_icmp_ne C 79 dR_member_67 (by decide) (fun c67 => ?_) (fun c67 => ?_)
            ·
              have hz : rMem R x w 0 = -1 := by unfold rMem; rw [if_pos e11, hcl, if_neg c27, if_neg c41, if_neg c55, if_neg c67]
              refine gh_iconst C (-1) dR_member_79 (by decide) ?_
              refine gh_iret C hQ rfl dR_member_80 ?_
              first | exact ⟨by rw [hz], h101⟩ | exact ⟨by unfold rMem; rw [if_neg e11], h101⟩
            ·
              have hz : rMem R x w 0 = R.2 30 m := by unfold rMem; rw [if_pos e11, hcl, if_neg c27, if_neg c41, if_neg c55, if_pos c67]
              refine gh_aload_n C dR_member_70 rfl ?_
              refine rw_get C h101 fR_89 rfl dR_member_71 ?_
              refine gh_iload_n C dR_member_74 rfl ?_
              refine rw_ild C h101 30 16 ⟨rfl, rfl, rfl, by decide⟩ (m) hx (by omega) dR_member_75 ?_
              refine gh_ti (R.2 30 m) rfl ?_
              refine gh_goto C 80 dR_member_76 (by decide) ?_
              refine gh_iret C hQ rfl dR_member_80 ?_
              first | exact ⟨by rw [hz], h101⟩ | exact ⟨by unfold rMem; rw [if_neg e11], h101⟩
          · exact absurd c55 hw
        ·
          have hz : rMem R x w 0 = R.2 28 m := by unfold rMem; rw [if_pos e11, hcl, if_neg c27, if_pos c41]
          refine gh_aload_n C dR_member_44 rfl ?_
          refine rw_get C h101 fR_83 rfl dR_member_45 ?_
          refine gh_iload_n C dR_member_48 rfl ?_
          refine rw_ild C h101 28 16 ⟨rfl, rfl, rfl, by decide⟩ (m) hx (by omega) dR_member_49 ?_
          refine gh_ti (R.2 28 m) rfl ?_
          refine gh_goto C 80 dR_member_50 (by decide) ?_
          refine gh_iret C hQ rfl dR_member_80 ?_
          first | exact ⟨by rw [hz], h101⟩ | exact ⟨by unfold rMem; rw [if_neg e11], h101⟩
      ·
        have hz : rMem R x w 0 = R.2 27 m := by unfold rMem; rw [if_pos e11, hcl, if_pos c27]
        refine gh_aload_n C dR_member_30 rfl ?_
        refine rw_get C h101 fR_80 rfl dR_member_31 ?_
        refine gh_iload_n C dR_member_34 rfl ?_
        refine rw_ild C h101 27 16 ⟨rfl, rfl, rfl, by decide⟩ (m) hx (by omega) dR_member_35 ?_
        refine gh_ti (R.2 27 m) rfl ?_
        refine gh_goto C 80 dR_member_36 (by decide) ?_
        refine gh_iret C hQ rfl dR_member_80 ?_
        first | exact ⟨by rw [hz], h101⟩ | exact ⟨by unfold rMem; rw [if_neg e11], h101⟩
    · exact absurd c18 hw
  ·
    have e11 : ¬ inn 16 x = true := fun h => by rw [if_pos h] at c11; exact absurd c11 (by decide)
    refine gh_iconst C (-1) dR_member_14 (by decide) ?_
    refine gh_iret C hQ rfl dR_member_15 ?_
    first | exact ⟨by rw [hz], h101⟩ | exact ⟨by unfold rMem; rw [if_neg e11], h101⟩
set_option maxRecDepth 100000 in
set_option maxHeartbeats 4000000 in
theorem r_member2 (l : Launch) (d : gh_D) (g : gh_H) {y : Nat → Nat} {R : SR} (hR : rR g y R) (m uc : Nat) (hm : m < 16) (hat : R.2 32 m ≠ 0 → ∃ e, e < 60 ∧ R.2 27 m = nI e) (huc : R.2 31 m = nI uc) (hu20 : uc ≤ 20) (hP : R.1 35 ≤ 60) : gh_C l d mR_member (rr 2 0 0) [.ref (y 0), .int (nI m), .int 2] g (fun v g1 => v = some (.int (nI ((gaR (ri R 0 0) m uc).1 46))) ∧ rQ g g1 y (gaR (ri R 0 0) m uc)) := by
  refine gh_of [some (.ref (y 0)), some (.int (nI m)), some (.int 2)] (by decide) rfl (Nat.le_of_ble_eq_true rfl) (by simp [Value.category]) (fun z C hQ => ?_)
  show gh_W l d z 0 [some (.ref (y 0)), some (.int (nI m)), some (.int 2)] [] g 0 0
  have h0 := rQ.rf hR
  refine gh_aload_n C dR_member_0 rfl ?_
  refine gh_iconst C 0 dR_member_1 (by decide) ?_
  refine rw_put C h0 (0) rfl pR_155 (by decide) rfl (by decide) (fun _ => rfl) (fun _ => rfl) dR_member_2 (fun g101 h101 => ?_)
  refine gh_iload_n C dR_member_5 rfl ?_
  refine gh_bipush C 16 dR_member_6 (by decide) ?_
  refine gh_callS C [.int (nI m), .int 16] (r_inn l d _ 16 (nI m)) lR_264 wR_in sR_in rfl rfl (Nat.le_of_ble_eq_true rfl) ⟨Nat.le_of_ble_eq_true rfl, Nat.le_of_ble_eq_true rfl⟩ (Nat.le_of_ble_eq_true rfl) (Nat.le_of_ble_eq_true rfl) dR_member_8 (fun v102 g102 k102 => ?_)
  obtain ⟨rfl, e102⟩ := k102
  subst g102
  rw [if_pos (inn_n hm (by decide))]
  refine gh_if_ne C 16 dR_member_11 (by decide) (fun c11 => ?_) (fun c11 => ?_)
  ·
    refine gh_iload_n C dR_member_16 rfl ?_
    refine gh_iconst C 2 dR_member_17 (by decide) ?_
    refine gh_icmp_ne C 26 dR_member_18 (by decide) (fun c18 => ?_) (fun c18 => ?_)
    · exact absurd rfl c18
    ·
      refine gh_aload_n C dR_member_21 rfl ?_
      refine gh_iload_n C dR_member_22 rfl ?_
      refine gh_callV C [.int (nI m)] (r_gather l d _ h101.1 m uc hm hat huc hu20 hP) lR_281 wR_gather vR_gather h101.1.1 rfl rfl rfl (Nat.le_of_ble_eq_true rfl) ⟨Nat.le_of_ble_eq_true rfl, Nat.le_of_ble_eq_true rfl⟩ (Nat.le_of_ble_eq_true rfl) (Nat.le_of_ble_eq_true rfl) dR_member_23 (fun v103 g103 k103 => ?_)
      obtain ⟨rfl, h103⟩ := k103
      replace h103 := h101.tr h103
      refine gh_iload_n C dR_member_26 rfl ?_
      refine gh_if_ne C 39 dR_member_27 (by decide) (fun c27 => ?_) (fun c27 => ?_)
      ·
        refine gh_iload_n C dR_member_39 rfl ?_
        refine gh_iconst C 1 dR_member_40 (by decide) ?_
        refine gh_icmp_ne C 53 dR_member_41 (by decide) (fun c41 => ?_) (fun c41 => ?_)
        ·
          refine gh_iload_n C dR_member_53 rfl ?_
          refine gh_iconst C 2 dR_member_54 (by decide) ?_
          refine gh_icmp_ne C 65 dR_member_55 (by decide) (fun c55 => ?_) (fun c55 => ?_)
          · exact absurd rfl c55
          ·
            refine gh_aload_n C dR_member_58 rfl ?_
            refine rw_get C h103 fR_183 rfl dR_member_59 ?_
            refine gh_goto C 80 dR_member_62 (by decide) ?_
            refine gh_iret C hQ rfl dR_member_80 ?_
            exact ⟨rfl, h103⟩
        · exact absurd c41 (by decide)
      · exact absurd c27 (by decide)
  · exact absurd c11 (by decide)
set_option maxRecDepth 100000 in
set_option maxHeartbeats 4000000 in
theorem r_member2X (l : Launch) (d : gh_D) (g : gh_H) {y : Nat → Nat} {R : SR} (hR : rR g y R) (x : Int32) (hx : ¬ inn 16 x = true) : gh_C l d mR_member (rr 2 0 0) [.ref (y 0), .int x, .int 2] g (fun v g1 => v = some (.int (-1)) ∧ rQ g g1 y (ri R 0 0)) := by
  refine gh_of [some (.ref (y 0)), some (.int x), some (.int 2)] (by decide) rfl (Nat.le_of_ble_eq_true rfl) (by simp [Value.category]) (fun z C hQ => ?_)
  show gh_W l d z 0 [some (.ref (y 0)), some (.int x), some (.int 2)] [] g 0 0
  have h0 := rQ.rf hR
  refine gh_aload_n C dR_member_0 rfl ?_
  refine gh_iconst C 0 dR_member_1 (by decide) ?_
  refine rw_put C h0 (0) rfl pR_155 (by decide) rfl (by decide) (fun _ => rfl) (fun _ => rfl) dR_member_2 (fun g101 h101 => ?_)
  refine gh_iload_n C dR_member_5 rfl ?_
  refine gh_bipush C 16 dR_member_6 (by decide) ?_
  refine gh_callS C [.int x, .int 16] (r_inn l d _ 16 x) lR_264 wR_in sR_in rfl rfl (Nat.le_of_ble_eq_true rfl) ⟨Nat.le_of_ble_eq_true rfl, Nat.le_of_ble_eq_true rfl⟩ (Nat.le_of_ble_eq_true rfl) (Nat.le_of_ble_eq_true rfl) dR_member_8 (fun v102 g102 k102 => ?_)
  obtain ⟨rfl, e102⟩ := k102
  subst g102
  rw [if_neg hx]
  refine gh_if_ne C 16 dR_member_11 (by decide) (fun c11 => ?_) (fun c11 => ?_)
  · exact absurd (by decide) c11
  ·
    refine gh_iconst C (-1) dR_member_14 (by decide) ?_
    refine gh_iret C hQ rfl dR_member_15 ?_
    exact ⟨rfl, h101⟩
