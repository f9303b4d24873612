/-! node, doRemoves, doUpdates -/
def rNo (R : SR) (e v : Nat) (w : Int32) (n : Nat) : Int32 := if w = 0 then (if R.2 22 (31 * e + v) = -1 then 0 else 1) else if w = 1 then R.2 23 (31 * e + v) else if w = 2 then (if R.2 22 (31 * e + v) = -1 then -1 else R.2 24 (31 * e + v)) else if w = 3 then nI n else -1
set_option maxRecDepth 100000 in
set_option maxHeartbeats 4000000 in
theorem r_node (l : Launch) (d : gh_D) (g : gh_H) {y : Nat → Nat} {R : SR} (hR : rR g y R) (e u D : Nat) (w : Int32) (hE60 : R.1 12 ≤ 60) (he : e < R.1 12) (hD : R.2 13 e = nI D) (hD4 : D ≤ 4) (hu : u < tW D) (hw : w ≠ 3) : gh_C l d mR_node (rr 2 0 0) [.ref (y 0), .int (nI e), .int (nI u), .int w] g (fun v g1 => v = some (.int (rNo R e u w 0)) ∧ rQ g g1 y (ri R 0 0)) := by
  have hT := tW31 hD4
  have hiW : inn (tW D) (nI u) = true := inn_n hu (by omega)
  refine gh_of [some (.ref (y 0)), some (.int (nI e)), some (.int (nI u)), some (.int w), none] (by decide) rfl (Nat.le_of_ble_eq_true rfl) (by simp [Value.category]) (fun z C hQ => ?_)
  show gh_W l d z 0 [some (.ref (y 0)), some (.int (nI e)), some (.int (nI u)), some (.int w), none] [] g 0 0
  have h0 := rQ.rf hR
  refine gh_aload_n C dR_node_0 rfl ?_
  refine gh_iconst C 0 dR_node_1 (by decide) ?_
  refine rw_put C h0 (0) rfl pR_155 (by decide) rfl (by decide) (fun _ => rfl) (fun _ => rfl) dR_node_2 (fun g101 h101 => ?_)
  refine gh_iload_n C dR_node_5 rfl ?_
  refine gh_aload_n C dR_node_6 rfl ?_
  refine rw_get C h101 fR_151 rfl dR_node_7 ?_
  refine gh_ti (nI (R.1 12)) rfl ?_
  refine gh_callS C [.int (nI e), .int (nI (R.1 12))] (r_inn l d _ (R.1 12) (nI e)) lR_264 wR_in sR_in rfl rfl (Nat.le_of_ble_eq_true rfl) ⟨Nat.le_of_ble_eq_true rfl, Nat.le_of_ble_eq_true rfl⟩ (Nat.le_of_ble_eq_true rfl) (Nat.le_of_ble_eq_true rfl) dR_node_10 (fun v102 g102 k102 => ?_)
  obtain ⟨rfl, e102⟩ := k102
  subst g102
  rw [if_pos (inn_n he (by omega))]
  refine gh_if_eq C 28 dR_node_13 (by decide) (fun c13 => ?_) (fun c13 => ?_)
  · exact absurd c13 (by decide)
  ·
    refine gh_iload_n C dR_node_16 rfl ?_
    refine gh_aload_n C dR_node_17 rfl ?_
    refine gh_iload_n C dR_node_18 rfl ?_
    refine gh_callV C [.int (nI e)] (r_width l d _ h101.1 e D (by omega) hD hD4) lR_192 wR_width vR_width h101.1.1 rfl rfl rfl (Nat.le_of_ble_eq_true rfl) ⟨Nat.le_of_ble_eq_true rfl, Nat.le_of_ble_eq_true rfl⟩ (Nat.le_of_ble_eq_true rfl) (Nat.le_of_ble_eq_true rfl) dR_node_19 (fun v103 g103 k103 => ?_)
    obtain ⟨rfl, e103⟩ := k103
    subst g103
    refine gh_callS C [.int (nI u), .int (nI (tW D))] (r_inn l d _ (tW D) (nI u)) lR_264 wR_in sR_in rfl rfl (Nat.le_of_ble_eq_true rfl) ⟨Nat.le_of_ble_eq_true rfl, Nat.le_of_ble_eq_true rfl⟩ (Nat.le_of_ble_eq_true rfl) (Nat.le_of_ble_eq_true rfl) dR_node_22 (fun v104 g104 k104 => ?_)
    obtain ⟨rfl, e104⟩ := k104
    subst g104
    rw [if_pos hiW]
    refine gh_if_ne C 30 dR_node_25 (by decide) (fun c25 => ?_) (fun c25 => ?_)
    ·
      refine gh_bipush C 31 dR_node_30 (by decide) ?_
      refine gh_iload_n C dR_node_32 rfl ?_
      refine gh_imul C dR_node_33 ?_
      refine gh_ti (nI (31 * e)) (pk_mul 31 e) ?_
      refine gh_iload_n C dR_node_34 rfl ?_
      refine gh_iadd C dR_node_35 ?_
      refine gh_ti (nI (31 * e + u)) (nI_add (31 * e) u) ?_
      refine gh_istore C [some (.ref (y 0)), some (.int (nI e)), some (.int (nI u)), some (.int w), some (.int (nI (31 * e + u)))] dR_node_36 rfl (Nat.le_of_ble_eq_true rfl) ?_
      refine gh_iload_n C dR_node_38 rfl ?_
      refine gh_iconst C 3 dR_node_39 (by decide) ?_
      refine gh_icmp_ne C 49 dR_node_40 (by decide) (fun c40 => ?_) (fun c40 => ?_)
      ·
        refine gh_iload_n C dR_node_49 rfl ?_
        refine gh_if_ne C 72 dR_node_50 (by decide) (fun c50 => ?_) (fun c50 => ?_)
        ·
          refine gh_iload_n C dR_node_72 rfl ?_
          refine gh_iconst C 1 dR_node_73 (by decide) ?_
          refine gh_icmp_ne C 87 dR_node_74 (by decide) (fun c74 => ?_) (fun c74 => ?_)
          ·
            refine gh_iload_n C dR_node_87 rfl ?_
            refine gh_iconst C 2 dR_node_88 (by decide) ?_
            refine gh_icmp_ne C 117 dR_node_89 (by decide) (fun c89 => ?_) (fun c89 => ?_)
            ·
              refine gh_iload_n C dR_node_117 rfl ?_
              refine gh_iconst C 3 dR_node_118 (by decide) ?_
              refine gh_icmp_ne C 129 dR_node_119 (by decide) (fun c119 => ?_) (fun c119 => ?_)
              ·
                refine gh_iconst C (-1) dR_node_129 (by decide) ?_
                refine gh_iret C hQ rfl dR_node_130 ?_
                refine ⟨?_, h101⟩
                unfold rNo
                first
                  | (simp [c50, c61]; done)
                  | (simp [c50, c74]; done)
                  | (simp [c50, c74, c89, c100]; done)
                  | (simp [c50, c74, c89, c119]; done)
              · exact absurd c119 hw
            ·
              refine gh_aload_n C dR_node_92 rfl ?_
              refine rw_get C h101 fR_65 rfl dR_node_93 ?_
              refine gh_iload C dR_node_96 rfl ?_
              refine rw_ild C h101 22 1860 ⟨rfl, rfl, rfl, by decide⟩ (31 * e + u) rfl (by omega) dR_node_98 ?_
              refine gh_ti (R.2 22 (31 * e + u)) rfl ?_
              refine gh_iconst C (-1) dR_node_99 (by decide) ?_
              refine gh_icmp_ne C 107 dR_node_100 (by decide) (fun c100 => ?_) (fun c100 => ?_)
              ·
                refine gh_aload_n C dR_node_107 rfl ?_
                refine rw_get C h101 fR_71 rfl dR_node_108 ?_
                refine gh_iload C dR_node_111 rfl ?_
                refine rw_ild C h101 24 1860 ⟨rfl, rfl, rfl, by decide⟩ (31 * e + u) rfl (by omega) dR_node_113 ?_
                refine gh_ti (R.2 24 (31 * e + u)) rfl ?_
                refine gh_goto C 130 dR_node_114 (by decide) ?_
                refine gh_iret C hQ rfl dR_node_130 ?_
                refine ⟨?_, h101⟩
                unfold rNo
                first
                  | (simp [c50, c61]; done)
                  | (simp [c50, c74]; done)
                  | (simp [c50, c74, c89, c100]; done)
                  | (simp [c50, c74, c89, c119]; done)
              ·
                refine gh_iconst C (-1) dR_node_103 (by decide) ?_
                refine gh_goto C 130 dR_node_104 (by decide) ?_
                refine gh_iret C hQ rfl dR_node_130 ?_
                refine ⟨?_, h101⟩
                unfold rNo
                first
                  | (simp [c50, c61]; done)
                  | (simp [c50, c74]; done)
                  | (simp [c50, c74, c89, c100]; done)
                  | (simp [c50, c74, c89, c119]; done)
          ·
            refine gh_aload_n C dR_node_77 rfl ?_
            refine rw_get C h101 fR_68 rfl dR_node_78 ?_
            refine gh_iload C dR_node_81 rfl ?_
            refine rw_ild C h101 23 1860 ⟨rfl, rfl, rfl, by decide⟩ (31 * e + u) rfl (by omega) dR_node_83 ?_
            refine gh_ti (R.2 23 (31 * e + u)) rfl ?_
            refine gh_goto C 130 dR_node_84 (by decide) ?_
            refine gh_iret C hQ rfl dR_node_130 ?_
            refine ⟨?_, h101⟩
            unfold rNo
            first
              | (simp [c50, c61]; done)
              | (simp [c50, c74]; done)
              | (simp [c50, c74, c89, c100]; done)
              | (simp [c50, c74, c89, c119]; done)
        ·
          refine gh_aload_n C dR_node_53 rfl ?_
          refine rw_get C h101 fR_65 rfl dR_node_54 ?_
          refine gh_iload C dR_node_57 rfl ?_
          refine rw_ild C h101 22 1860 ⟨rfl, rfl, rfl, by decide⟩ (31 * e + u) rfl (by omega) dR_node_59 ?_
          refine gh_ti (R.2 22 (31 * e + u)) rfl ?_
          refine gh_iconst C (-1) dR_node_60 (by decide) ?_
          refine gh_icmp_ne C 68 dR_node_61 (by decide) (fun c61 => ?_) (fun c61 => ?_)
          ·
            refine gh_iconst C 1 dR_node_68 (by decide) ?_
            refine gh_goto C 130 dR_node_69 (by decide) ?_
            refine gh_iret C hQ rfl dR_node_130 ?_
            refine ⟨?_, h101⟩
            unfold rNo
            first
              | (simp [c50, c61]; done)
              | (simp [c50, c74]; done)
              | (simp [c50, c74, c89, c100]; done)
              | (simp [c50, c74, c89, c119]; done)
          ·
            refine gh_iconst C 0 dR_node_64 (by decide) ?_
            refine gh_goto C 130 dR_node_65 (by decide) ?_
            refine gh_iret C hQ rfl dR_node_130 ?_
            refine ⟨?_, h101⟩
            unfold rNo
            first
              | (simp [c50, c61]; done)
              | (simp [c50, c74]; done)
              | (simp [c50, c74, c89, c100]; done)
              | (simp [c50, c74, c89, c119]; done)
      · exact absurd c40 hw
    · exact absurd c25 (by decide)
set_option maxRecDepth 100000 in
set_option maxHeartbeats 4000000 in
theorem r_node3 (l : Launch) (d : gh_D) (g : gh_H) {y : Nat → Nat} {R : SR} (hR : rR g y R) (e u D : Nat) (hE60 : R.1 12 ≤ 60) (he : e < R.1 12) (hD : R.2 13 e = nI D) (hD4 : D ≤ 4) (hu : u < tW D) (hL : (rsv (fun v => R.2 22 (31 * e + v)) (fun v => R.2 23 (31 * e + v)) (hgt u) u).length ≤ 32) : gh_C l d mR_node (rr 2 0 0) [.ref (y 0), .int (nI e), .int (nI u), .int 3] g (fun v g1 => v = some (.int (nI (rsv (fun v => R.2 22 (31 * e + v)) (fun v => R.2 23 (31 * e + v)) (hgt u) u).length)) ∧ ∃ F O : Nat → Int32, rQ g g1 y (rs (ri R 0 0) (rsv (fun v => R.2 22 (31 * e + v)) (fun v => R.2 23 (31 * e + v)) (hgt u) u).length F O)) := by
  have hT := tW31 hD4
  have hiW : inn (tW D) (nI u) = true := inn_n hu (by omega)
  refine gh_of [some (.ref (y 0)), some (.int (nI e)), some (.int (nI u)), some (.int 3), none] (by decide) rfl (Nat.le_of_ble_eq_true rfl) (by simp [Value.category]) (fun z C hQ => ?_)
  show gh_W l d z 0 [some (.ref (y 0)), some (.int (nI e)), some (.int (nI u)), some (.int 3), none] [] g 0 0
  have h0 := rQ.rf hR
  refine gh_aload_n C dR_node_0 rfl ?_
  refine gh_iconst C 0 dR_node_1 (by decide) ?_
  refine rw_put C h0 (0) rfl pR_155 (by decide) rfl (by decide) (fun _ => rfl) (fun _ => rfl) dR_node_2 (fun g101 h101 => ?_)
  refine gh_iload_n C dR_node_5 rfl ?_
  refine gh_aload_n C dR_node_6 rfl ?_
  refine rw_get C h101 fR_151 rfl dR_node_7 ?_
  refine gh_ti (nI (R.1 12)) rfl ?_
  refine gh_callS C [.int (nI e), .int (nI (R.1 12))] (r_inn l d _ (R.1 12) (nI e)) lR_264 wR_in sR_in rfl rfl (Nat.le_of_ble_eq_true rfl) ⟨Nat.le_of_ble_eq_true rfl, Nat.le_of_ble_eq_true rfl⟩ (Nat.le_of_ble_eq_true rfl) (Nat.le_of_ble_eq_true rfl) dR_node_10 (fun v102 g102 k102 => ?_)
  obtain ⟨rfl, e102⟩ := k102
  subst g102
  rw [if_pos (inn_n he (by omega))]
  refine gh_if_eq C 28 dR_node_13 (by decide) (fun c13 => ?_) (fun c13 => ?_)
  · exact absurd c13 (by decide)
  ·
    refine gh_iload_n C dR_node_16 rfl ?_
    refine gh_aload_n C dR_node_17 rfl ?_
    refine gh_iload_n C dR_node_18 rfl ?_
    refine gh_callV C [.int (nI e)] (r_width l d _ h101.1 e D (by omega) hD hD4) lR_192 wR_width vR_width h101.1.1 rfl rfl rfl (Nat.le_of_ble_eq_true rfl) ⟨Nat.le_of_ble_eq_true rfl, Nat.le_of_ble_eq_true rfl⟩ (Nat.le_of_ble_eq_true rfl) (Nat.le_of_ble_eq_true rfl) dR_node_19 (fun v103 g103 k103 => ?_)
    obtain ⟨rfl, e103⟩ := k103
    subst g103
    refine gh_callS C [.int (nI u), .int (nI (tW D))] (r_inn l d _ (tW D) (nI u)) lR_264 wR_in sR_in rfl rfl (Nat.le_of_ble_eq_true rfl) ⟨Nat.le_of_ble_eq_true rfl, Nat.le_of_ble_eq_true rfl⟩ (Nat.le_of_ble_eq_true rfl) (Nat.le_of_ble_eq_true rfl) dR_node_22 (fun v104 g104 k104 => ?_)
    obtain ⟨rfl, e104⟩ := k104
    subst g104
    rw [if_pos hiW]
    refine gh_if_ne C 30 dR_node_25 (by decide) (fun c25 => ?_) (fun c25 => ?_)
    ·
      refine gh_bipush C 31 dR_node_30 (by decide) ?_
      refine gh_iload_n C dR_node_32 rfl ?_
      refine gh_imul C dR_node_33 ?_
      refine gh_ti (nI (31 * e)) (pk_mul 31 e) ?_
      refine gh_iload_n C dR_node_34 rfl ?_
      refine gh_iadd C dR_node_35 ?_
      refine gh_ti (nI (31 * e + u)) (nI_add (31 * e) u) ?_
      refine gh_istore C [some (.ref (y 0)), some (.int (nI e)), some (.int (nI u)), some (.int 3), some (.int (nI (31 * e + u)))] dR_node_36 rfl (Nat.le_of_ble_eq_true rfl) ?_
      refine gh_iload_n C dR_node_38 rfl ?_
      refine gh_iconst C 3 dR_node_39 (by decide) ?_
      refine gh_icmp_ne C 49 dR_node_40 (by decide) (fun c40 => ?_) (fun c40 => ?_)
      · exact absurd rfl c40
      ·
        refine gh_aload_n C dR_node_43 rfl ?_
        refine gh_iload_n C dR_node_44 rfl ?_
        refine gh_iload_n C dR_node_45 rfl ?_
        refine gh_callV C [.int (nI e), .int (nI u)] (r_resolve l d _ h101.1 e u (by omega) (by omega) hL) lR_218 wR_resolve vR_resolve h101.1.1 rfl rfl rfl (Nat.le_of_ble_eq_true rfl) ⟨Nat.le_of_ble_eq_true rfl, Nat.le_of_ble_eq_true rfl⟩ (Nat.le_of_ble_eq_true rfl) (Nat.le_of_ble_eq_true rfl) dR_node_46 (fun v105 g105 k105 => ?_)
        obtain ⟨rfl, F, O, h105, o105⟩ := k105
        replace h105 := h101.tr h105
        refine gh_iload_n C dR_node_49 rfl ?_
        refine gh_if_ne C 72 dR_node_50 (by decide) (fun c50 => ?_) (fun c50 => ?_)
        ·
          refine gh_iload_n C dR_node_72 rfl ?_
          refine gh_iconst C 1 dR_node_73 (by decide) ?_
          refine gh_icmp_ne C 87 dR_node_74 (by decide) (fun c74 => ?_) (fun c74 => ?_)
          ·
            refine gh_iload_n C dR_node_87 rfl ?_
            refine gh_iconst C 2 dR_node_88 (by decide) ?_
            refine gh_icmp_ne C 117 dR_node_89 (by decide) (fun c89 => ?_) (fun c89 => ?_)
            ·
              refine gh_iload_n C dR_node_117 rfl ?_
              refine gh_iconst C 3 dR_node_118 (by decide) ?_
              refine gh_icmp_ne C 129 dR_node_119 (by decide) (fun c119 => ?_) (fun c119 => ?_)
              · exact absurd rfl c119
              ·
                refine gh_aload_n C dR_node_122 rfl ?_
                refine rw_get C h105 fR_176 rfl dR_node_123 ?_
                refine gh_ti (nI (rsv (fun v => R.2 22 (31 * e + v)) (fun v => R.2 23 (31 * e + v)) (hgt u) u).length) rfl ?_
                refine gh_goto C 130 dR_node_126 (by decide) ?_
                refine gh_iret C hQ rfl dR_node_130 ?_
                exact ⟨rfl, F, O, h105⟩
            · exact absurd c89 (by decide)
          · exact absurd c74 (by decide)
        · exact absurd c50 (by decide)
    · exact absurd c25 (by decide)
set_option maxRecDepth 100000 in
set_option maxHeartbeats 4000000 in
theorem r_nodeX (l : Launch) (d : gh_D) (g : gh_H) {y : Nat → Nat} {R : SR} (hR : rR g y R) (x u w : Int32) (hx : ¬ inn (R.1 12) x = true) : gh_C l d mR_node (rr 2 0 0) [.ref (y 0), .int x, .int u, .int w] g (fun v g1 => v = some (.int (-1)) ∧ rQ g g1 y (ri R 0 0)) := by
  refine gh_of [some (.ref (y 0)), some (.int x), some (.int u), some (.int w), none] (by decide) rfl (Nat.le_of_ble_eq_true rfl) (by simp [Value.category]) (fun z C hQ => ?_)
  show gh_W l d z 0 [some (.ref (y 0)), some (.int x), some (.int u), some (.int w), none] [] g 0 0
  have h0 := rQ.rf hR
  refine gh_aload_n C dR_node_0 rfl ?_
  refine gh_iconst C 0 dR_node_1 (by decide) ?_
  refine rw_put C h0 (0) rfl pR_155 (by decide) rfl (by decide) (fun _ => rfl) (fun _ => rfl) dR_node_2 (fun g101 h101 => ?_)
  refine gh_iload_n C dR_node_5 rfl ?_
  refine gh_aload_n C dR_node_6 rfl ?_
  refine rw_get C h101 fR_151 rfl dR_node_7 ?_
  refine gh_ti (nI (R.1 12)) rfl ?_
  refine gh_callS C [.int x, .int (nI (R.1 12))] (r_inn l d _ (R.1 12) x) lR_264 wR_in sR_in rfl rfl (Nat.le_of_ble_eq_true rfl) ⟨Nat.le_of_ble_eq_true rfl, Nat.le_of_ble_eq_true rfl⟩ (Nat.le_of_ble_eq_true rfl) (Nat.le_of_ble_eq_true rfl) dR_node_10 (fun v102 g102 k102 => ?_)
  obtain ⟨rfl, e102⟩ := k102
  subst g102
  rw [if_neg hx]
  refine gh_if_eq C 28 dR_node_13 (by decide) (fun c13 => ?_) (fun c13 => ?_)
  ·
    refine gh_iconst C (-1) dR_node_28 (by decide) ?_
    refine gh_iret C hQ rfl dR_node_29 ?_
    exact ⟨rfl, h101⟩
  · exact absurd (by decide) c13
set_option maxRecDepth 100000 in
set_option maxHeartbeats 4000000 in
theorem r_nodeW (l : Launch) (d : gh_D) (g : gh_H) {y : Nat → Nat} {R : SR} (hR : rR g y R) (e D : Nat) (u w : Int32) (hE60 : R.1 12 ≤ 60) (he : e < R.1 12) (hD : R.2 13 e = nI D) (hD4 : D ≤ 4) (hx : ¬ inn (tW D) u = true) : gh_C l d mR_node (rr 2 0 0) [.ref (y 0), .int (nI e), .int u, .int w] g (fun v g1 => v = some (.int (-1)) ∧ rQ g g1 y (ri R 0 0)) := by
  refine gh_of [some (.ref (y 0)), some (.int (nI e)), some (.int u), some (.int w), none] (by decide) rfl (Nat.le_of_ble_eq_true rfl) (by simp [Value.category]) (fun z C hQ => ?_)
  show gh_W l d z 0 [some (.ref (y 0)), some (.int (nI e)), some (.int u), some (.int w), none] [] g 0 0
  have h0 := rQ.rf hR
  refine gh_aload_n C dR_node_0 rfl ?_
  refine gh_iconst C 0 dR_node_1 (by decide) ?_
  refine rw_put C h0 (0) rfl pR_155 (by decide) rfl (by decide) (fun _ => rfl) (fun _ => rfl) dR_node_2 (fun g101 h101 => ?_)
  refine gh_iload_n C dR_node_5 rfl ?_
  refine gh_aload_n C dR_node_6 rfl ?_
  refine rw_get C h101 fR_151 rfl dR_node_7 ?_
  refine gh_ti (nI (R.1 12)) rfl ?_
  refine gh_callS C [.int (nI e), .int (nI (R.1 12))] (r_inn l d _ (R.1 12) (nI e)) lR_264 wR_in sR_in rfl rfl (Nat.le_of_ble_eq_true rfl) ⟨Nat.le_of_ble_eq_true rfl, Nat.le_of_ble_eq_true rfl⟩ (Nat.le_of_ble_eq_true rfl) (Nat.le_of_ble_eq_true rfl) dR_node_10 (fun v102 g102 k102 => ?_)
  obtain ⟨rfl, e102⟩ := k102
  subst g102
  rw [if_pos (inn_n he (by omega))]
  refine gh_if_eq C 28 dR_node_13 (by decide) (fun c13 => ?_) (fun c13 => ?_)
  · exact absurd c13 (by decide)
  ·
    refine gh_iload_n C dR_node_16 rfl ?_
    refine gh_aload_n C dR_node_17 rfl ?_
    refine gh_iload_n C dR_node_18 rfl ?_
    refine gh_callV C [.int (nI e)] (r_width l d _ h101.1 e D (by omega) hD hD4) lR_192 wR_width vR_width h101.1.1 rfl rfl rfl (Nat.le_of_ble_eq_true rfl) ⟨Nat.le_of_ble_eq_true rfl, Nat.le_of_ble_eq_true rfl⟩ (Nat.le_of_ble_eq_true rfl) (Nat.le_of_ble_eq_true rfl) dR_node_19 (fun v103 g103 k103 => ?_)
    obtain ⟨rfl, e103⟩ := k103
    subst g103
    refine gh_callS C [.int u, .int (nI (tW D))] (r_inn l d _ (tW D) u) lR_264 wR_in sR_in rfl rfl (Nat.le_of_ble_eq_true rfl) ⟨Nat.le_of_ble_eq_true rfl, Nat.le_of_ble_eq_true rfl⟩ (Nat.le_of_ble_eq_true rfl) (Nat.le_of_ble_eq_true rfl) dR_node_22 (fun v104 g104 k104 => ?_)
    obtain ⟨rfl, e104⟩ := k104
    subst g104
    rw [if_neg hx]
    refine gh_if_ne C 30 dR_node_25 (by decide) (fun c25 => ?_) (fun c25 => ?_)
    · exact absurd (by decide) c25
    ·
      refine gh_iconst C (-1) dR_node_28 (by decide) ?_
      refine gh_iret C hQ rfl dR_node_29 ?_
      exact ⟨rfl, h101⟩
def rd1 (T : SR) (e i D : Nat) : SR := ra (bpR (blR T e (2 * i)) e i D) 26 (upd ((bpR (blR T e (2 * i)) e i D).2 26) (16 * e + i) (-1))
def rdR (R : SR) (e D : Nat) (M : Int32) : Nat → SR
  | 0 => R
  | i + 1 => if tb M i = true then rd1 (rdR R e D M i) e i D else rdR R e D M i
theorem rd1_f (T : SR) (e i D : Nat) : (rd1 T e i D).1 = T.1 ∧ ∀ f, f ≠ 22 → f ≠ 23 → f ≠ 26 → (rd1 T e i D).2 f = T.2 f := by
  refine ⟨bpR_1 _ e i D, fun f h1 h2 h3 => ?_⟩
  simp only [rd1, ra, if_neg h3]
  rw [bpR_2 _ e i D h1 h2]
  simp [blR, ra, h1, h2]
theorem rdR_f (R : SR) (e D : Nat) (M : Int32) (i : Nat) : (rdR R e D M i).1 = R.1 ∧ ∀ f, f ≠ 22 → f ≠ 23 → f ≠ 26 → (rdR R e D M i).2 f = R.2 f := by
  induction i with
  | zero => exact ⟨rfl, fun _ _ _ _ => rfl⟩
  | succ i ih =>
    simp only [rdR]
    by_cases h : tb M i = true
    · rw [if_pos h]
      have h9 := rd1_f (rdR R e D M i) e i D
      exact ⟨h9.1.trans ih.1, fun f h1 h2 h3 => (h9.2 f h1 h2 h3).trans (ih.2 f h1 h2 h3)⟩
    · rw [if_neg h]; exact ih
def blF (R : SR) (e w : Nat) : Nat → SR
  | 0 => R
  | i + 1 => blR (blF R e w i) e (w + i)
theorem blF_f (R : SR) (e w i : Nat) : (blF R e w i).1 = R.1 ∧ ∀ f, f ≠ 22 → f ≠ 23 → (blF R e w i).2 f = R.2 f := by
  induction i with
  | zero => exact ⟨rfl, fun _ _ _ => rfl⟩
  | succ i ih => exact ⟨ih.1, fun f h1 h2 => by simp only [blF, blR, ra, if_neg h1, if_neg h2]; exact ih.2 f h1 h2⟩
def skR (e : Nat) : Nat → SR → SR
  | 0, R => R
  | k + 1, R => if rbl k (rK R e) = true then skR e k (blF (ra R 13 (upd (R.2 13) e (nI k))) e (tW k) (31 - tW k)) else R
set_option maxRecDepth 100000 in
set_option maxHeartbeats 4000000 in
theorem r_doRemoves (l : Launch) (d : gh_D) (g : gh_H) {y : Nat → Nat} {R : SR} (hR : rR g y R) (e D : Nat) (he : e < 60) (hD : R.2 13 e = nI D) (hD4 : D ≤ 4) : gh_C l d mR_doRemoves (rr 2 0 0) [.ref (y 0), .int (nI e)] g (fun v g1 => v = none ∧ rQ g g1 y (skR e D (rdR R e D (R.2 17 e) 16))) := by
  refine gh_of [some (.ref (y 0)), some (.int (nI e)), none] (by decide) rfl (Nat.le_of_ble_eq_true rfl) (by simp [Value.category]) (fun z C hQ => ?_)
  show gh_W l d z 0 [some (.ref (y 0)), some (.int (nI e)), none] [] g 0 0
  have h0 := rQ.rf hR
  obtain ⟨M, eM⟩ : ∃ M, M = R.2 17 e := ⟨_, rfl⟩
  rw [← eM] at hQ
  obtain ⟨F, eF⟩ : ∃ F, F = skR e D (rdR R e D M 16) := ⟨_, rfl⟩
  rw [← eF] at hQ
  have loop2 : ∀ (k : Nat) (T : SR) (g1 : gh_H) (x2 : Option Value), T.2 13 e = nI k → k ≤ 4 → rQ g g1 y T → skR e k T = F → gh_W l d z 56 [some (.ref (y 0)), some (.int (nI e)), x2] [] g1 0 0 := by
    intro k
    induction k with
    | zero =>
      intro T g1 x2 hk _ h1 hF
      refine gh_aload_n C dR_doRemoves_56 rfl ?_
      refine rw_get C h1 fR_38 rfl dR_doRemoves_57 ?_
      refine gh_iload_n C dR_doRemoves_60 rfl ?_
      refine rw_ild C h1 13 60 ⟨rfl, rfl, rfl, by decide⟩ (e) rfl (by omega) dR_doRemoves_61 ?_
      refine gh_ti (nI 0) hk ?_
      refine gh_if_le C 110 dR_doRemoves_62 (by decide) (fun c62 => ?_) (fun c62 => ?_)
      ·
        refine gh_vret C hQ rfl dR_doRemoves_110 ?_
        exact ⟨rfl, by rw [← hF]; exact h1⟩
      · exact absurd (by decide) c62
    | succ k ih =>
      intro T g1 x2 hk hk4 h1 hF
      have hT := tW31 (show k ≤ 4 by omega)
      have loop3 : ∀ (c i : Nat) (g2 : gh_H), tW k + i + c = 31 → rbl k (rK T e) = true → rQ g g2 y (blF (ra T 13 (upd (T.2 13) e (nI k))) e (tW k) i) → gh_W l d z 89 [some (.ref (y 0)), some (.int (nI e)), some (.int (nI (tW k + i)))] [] g2 0 0 := by
        intro c
        induction c with
        | zero =>
          intro i g2 hi hb h2
          have hi9 : tW k + i = 31 := by omega
          have hi8 : i = 31 - tW k := by omega
          rw [hi9]
          refine gh_iload_n C dR_doRemoves_89 rfl ?_
          refine gh_bipush C 31 dR_doRemoves_90 (by decide) ?_
          refine gh_icmp_ge C 107 dR_doRemoves_92 (by decide) (fun c92 => ?_) (fun c92 => ?_)
          ·
            refine gh_goto C 56 dR_doRemoves_107 (by decide) ?_
            refine ih (blF (ra T 13 (upd (T.2 13) e (nI k))) e (tW k) i) _ _ ?_ (by omega) h2 ?_
            · rw [(blF_f _ e (tW k) i).2 13 (by decide) (by decide), ra_at]; simp [upd]
            · rw [← hF, hi8]; simp only [skR, if_pos hb]
          · exact absurd (nI_le (Nat.le_refl 31) (by decide)) c92
        | succ c ih3 =>
          intro i g2 hi hb h2
          refine gh_iload_n C dR_doRemoves_89 rfl ?_
          refine gh_bipush C 31 dR_doRemoves_90 (by decide) ?_
          refine gh_icmp_ge C 107 dR_doRemoves_92 (by decide) (fun c92 => ?_) (fun c92 => ?_)
          · exact absurd c92 (nI_ge (show tW k + i < 31 by omega) (by decide))
          ·
            refine gh_aload_n C dR_doRemoves_95 rfl ?_
            refine gh_iload_n C dR_doRemoves_96 rfl ?_
            refine gh_iload_n C dR_doRemoves_97 rfl ?_
            refine gh_callV C [.int (nI e), .int (nI (tW k + i))] (r_blank l d _ h2.1 e (tW k + i) he (by omega)) lR_172 wR_blank vR_blank h2.1.1 rfl rfl rfl (Nat.le_of_ble_eq_true rfl) ⟨Nat.le_of_ble_eq_true rfl, Nat.le_of_ble_eq_true rfl⟩ (Nat.le_of_ble_eq_true rfl) (Nat.le_of_ble_eq_true rfl) dR_doRemoves_98 (fun v101 g101 k101 => ?_)
            obtain ⟨rfl, h101⟩ := k101
            replace h101 := h2.tr h101
            refine gh_iinc C (nI (tW k + i + 1)) [some (.ref (y 0)), some (.int (nI e)), some (.int (nI (tW k + i + 1)))] dR_doRemoves_101 rfl (gh_inc (tW k + i)) rfl ?_
            refine gh_goto C 89 dR_doRemoves_104 (by decide) ?_
            exact ih3 (i + 1) _ (by omega) hb h101
      refine gh_aload_n C dR_doRemoves_56 rfl ?_
      refine rw_get C h1 fR_38 rfl dR_doRemoves_57 ?_
      refine gh_iload_n C dR_doRemoves_60 rfl ?_
      refine rw_ild C h1 13 60 ⟨rfl, rfl, rfl, by decide⟩ (e) rfl (by omega) dR_doRemoves_61 ?_
      refine gh_ti (nI (k + 1)) hk ?_
      refine gh_if_le C 110 dR_doRemoves_62 (by decide) (fun c62 => ?_) (fun c62 => ?_)
      · exact absurd c62 (Int32.not_le.mpr (nI_lt (a := 0) (by omega) (by omega)))
      ·
        refine gh_aload_n C dR_doRemoves_65 rfl ?_
        refine gh_iload_n C dR_doRemoves_66 rfl ?_
        refine gh_callV C [.int (nI e)] (r_isRB l d _ h1.1 e k he hk hk4) lR_201 wR_isRightBlank vR_isRightBlank h1.1.1 rfl rfl rfl (Nat.le_of_ble_eq_true rfl) ⟨Nat.le_of_ble_eq_true rfl, Nat.le_of_ble_eq_true rfl⟩ (Nat.le_of_ble_eq_true rfl) (Nat.le_of_ble_eq_true rfl) dR_doRemoves_67 (fun v101 g101 k101 => ?_)
        obtain ⟨rfl, e101⟩ := k101
        subst g101
        refine gh_if_eq C 110 dR_doRemoves_70 (by decide) (fun c70 => ?_) (fun c70 => ?_)
        ·
          have hb : ¬ rbl k (rK T e) = true := fun h => by rw [if_pos h] at c70; exact absurd c70 (by decide)
          refine gh_vret C hQ rfl dR_doRemoves_110 ?_
          exact ⟨rfl, by rw [← hF]; simp only [skR, if_neg hb]; exact h1⟩
        ·
          have hb : rbl k (rK T e) = true := by
            by_cases h : rbl k (rK T e) = true
            · exact h
            · rw [if_neg h] at c70; exact absurd rfl c70
          refine gh_aload_n C dR_doRemoves_73 rfl ?_
          refine rw_get C h1 fR_38 rfl dR_doRemoves_74 ?_
          refine gh_iload_n C dR_doRemoves_77 rfl ?_
          refine gh_dup2 C dR_doRemoves_78 rfl rfl ?_
          refine rw_ild C h1 13 60 ⟨rfl, rfl, rfl, by decide⟩ (e) rfl (by omega) dR_doRemoves_79 ?_
          refine gh_ti (nI (k + 1)) hk ?_
          refine gh_iconst C 1 dR_doRemoves_80 (by decide) ?_
          refine gh_isub C dR_doRemoves_81 ?_
          refine gh_ti (nI k) (nI_pred k) ?_
          refine rw_ist C h1 13 60 ⟨rfl, rfl, rfl, by decide⟩ (e) rfl (by omega) dR_doRemoves_82 (fun g102 h102 => ?_)
          have h102 : rQ g g102 y (ra T 13 (upd (T.2 13) e (nI k))) := h102
          refine gh_aload_n C dR_doRemoves_83 rfl ?_
          refine gh_iload_n C dR_doRemoves_84 rfl ?_
          refine gh_callV C [.int (nI e)] (r_width l d _ h102.1 e k he (by rw [ra_at]; simp [upd]) (by omega)) lR_192 wR_width vR_width h102.1.1 rfl rfl rfl (Nat.le_of_ble_eq_true rfl) ⟨Nat.le_of_ble_eq_true rfl, Nat.le_of_ble_eq_true rfl⟩ (Nat.le_of_ble_eq_true rfl) (Nat.le_of_ble_eq_true rfl) dR_doRemoves_85 (fun v103 g103 k103 => ?_)
          obtain ⟨rfl, e103⟩ := k103
          subst g103
          refine gh_istore_n C [some (.ref (y 0)), some (.int (nI e)), some (.int (nI (tW k)))] dR_doRemoves_88 rfl (Nat.le_of_ble_eq_true rfl) ?_
          exact loop3 (31 - tW k) 0 _ (by omega) hb h102
  have loop1 : ∀ (c i : Nat) (g1 : gh_H), i + c = 16 → rQ g g1 y (rdR R e D M i) → gh_W l d z 2 [some (.ref (y 0)), some (.int (nI e)), some (.int (nI i))] [] g1 0 0 := by
    intro c
    induction c with
    | zero =>
      intro i g1 hi h1
      have hi : i = 16 := by omega
      subst hi
      refine gh_iload_n C dR_doRemoves_2 rfl ?_
      refine gh_bipush C 16 dR_doRemoves_3 (by decide) ?_
      refine gh_icmp_ge C 56 dR_doRemoves_5 (by decide) (fun c5 => ?_) (fun c5 => ?_)
      ·
        exact loop2 D _ _ _ (by rw [(rdR_f R e D M 16).2 13 (by decide) (by decide) (by decide)]; exact hD) hD4 h1 eF.symm
      · exact absurd (nI_le (Nat.le_refl 16) (by decide)) c5
    | succ c ih =>
      intro i g1 hi h1
      have hi16 : i < 16 := by omega
      have inc : ∀ (g2 : gh_H), rQ g g2 y (rdR R e D M (i + 1)) → gh_W l d z 50 [some (.ref (y 0)), some (.int (nI e)), some (.int (nI i))] [] g2 0 0 := by
        intro g2 h2
        refine gh_iinc C (nI (i + 1)) [some (.ref (y 0)), some (.int (nI e)), some (.int (nI (i + 1)))] dR_doRemoves_50 rfl (gh_inc i) rfl ?_
        refine gh_goto C 2 dR_doRemoves_53 (by decide) ?_
        exact ih (i + 1) g2 (by omega) h2
      have hf := rdR_f R e D M i
      obtain ⟨T, eT⟩ : ∃ T, T = rdR R e D M i := ⟨_, rfl⟩
      have hs : rdR R e D M (i + 1) = if tb M i = true then rd1 T e i D else T := by rw [eT]; rfl
      rw [← eT] at h1 hf
      have h17 : T.2 17 e = M := by rw [hf.2 17 (by decide) (by decide) (by decide)]; exact eM.symm
      refine gh_iload_n C dR_doRemoves_2 rfl ?_
      refine gh_bipush C 16 dR_doRemoves_3 (by decide) ?_
      refine gh_icmp_ge C 56 dR_doRemoves_5 (by decide) (fun c5 => ?_) (fun c5 => ?_)
      · exact absurd c5 (nI_ge hi16 (by decide))
      ·
        refine gh_aload_n C dR_doRemoves_8 rfl ?_
        refine rw_get C h1 fR_50 rfl dR_doRemoves_9 ?_
        refine gh_iload_n C dR_doRemoves_12 rfl ?_
        refine rw_ild C h1 17 60 ⟨rfl, rfl, rfl, by decide⟩ (e) rfl (by omega) dR_doRemoves_13 ?_
        refine gh_ti (M) h17 ?_
        refine gh_iload_n C dR_doRemoves_14 rfl ?_
        refine gh_ishr C dR_doRemoves_15 ?_
        refine gh_iconst C 1 dR_doRemoves_16 (by decide) ?_
        refine gh_iand C dR_doRemoves_17 ?_
        refine gh_ti (if tb M i = true then 1 else 0) (shr_bit _ (by omega)) ?_
        refine gh_if_ne C 24 dR_doRemoves_18 (by decide) (fun c18 => ?_) (fun c18 => ?_)
        ·
          have hb : tb M i = true := by
            by_cases h : tb M i = true
            · exact h
            · rw [if_neg h] at c18; exact absurd rfl c18
          refine gh_aload_n C dR_doRemoves_24 rfl ?_
          refine gh_iload_n C dR_doRemoves_25 rfl ?_
          refine gh_iconst C 2 dR_doRemoves_26 (by decide) ?_
          refine gh_iload_n C dR_doRemoves_27 rfl ?_
          refine gh_imul C dR_doRemoves_28 ?_
          refine gh_ti (nI (2 * i)) (pk_mul 2 i) ?_
          refine gh_callV C [.int (nI e), .int (nI (2 * i))] (r_blank l d _ h1.1 e (2 * i) he (by omega)) lR_172 wR_blank vR_blank h1.1.1 rfl rfl rfl (Nat.le_of_ble_eq_true rfl) ⟨Nat.le_of_ble_eq_true rfl, Nat.le_of_ble_eq_true rfl⟩ (Nat.le_of_ble_eq_true rfl) (Nat.le_of_ble_eq_true rfl) dR_doRemoves_29 (fun v101 g101 k101 => ?_)
          obtain ⟨rfl, h101⟩ := k101
          replace h101 := h1.tr h101
          refine gh_aload_n C dR_doRemoves_32 rfl ?_
          refine gh_iload_n C dR_doRemoves_33 rfl ?_
          refine gh_iload_n C dR_doRemoves_34 rfl ?_
          refine gh_callV C [.int (nI e), .int (nI i)] (r_blankPath l d _ h101.1 e i D he hi16 (by simp only [blR, ra]; rw [hf.2 13 (by decide) (by decide) (by decide)]; exact hD) hD4) lR_198 wR_blankPath vR_blankPath h101.1.1 rfl rfl rfl (Nat.le_of_ble_eq_true rfl) ⟨Nat.le_of_ble_eq_true rfl, Nat.le_of_ble_eq_true rfl⟩ (Nat.le_of_ble_eq_true rfl) (Nat.le_of_ble_eq_true rfl) dR_doRemoves_35 (fun v102 g102 k102 => ?_)
          obtain ⟨rfl, h102⟩ := k102
          replace h102 := h101.tr h102
          refine gh_aload_n C dR_doRemoves_38 rfl ?_
          refine rw_get C h102 fR_77 rfl dR_doRemoves_39 ?_
          refine gh_bipush C 16 dR_doRemoves_42 (by decide) ?_
          refine gh_iload_n C dR_doRemoves_44 rfl ?_
          refine gh_imul C dR_doRemoves_45 ?_
          refine gh_ti (nI (16 * e)) (pk_mul 16 e) ?_
          refine gh_iload_n C dR_doRemoves_46 rfl ?_
          refine gh_iadd C dR_doRemoves_47 ?_
          refine gh_ti (nI (16 * e + i)) (nI_add (16 * e) i) ?_
          refine gh_iconst C (-1) dR_doRemoves_48 (by decide) ?_
          refine rw_ist C h102 26 960 ⟨rfl, rfl, rfl, by decide⟩ (16 * e + i) rfl (by omega) dR_doRemoves_49 (fun g103 h103 => ?_)
          have h103 : rQ g g103 y (ra (bpR (blR T e (2 * i)) e i D) 26 (upd ((bpR (blR T e (2 * i)) e i D).2 26) (16 * e + i) (-1))) := h103
          exact inc _ (by rw [hs, if_pos hb]; exact h103)
        · refine gh_goto C 50 dR_doRemoves_21 (by decide) ?_
          have hb : ¬ tb M i = true := fun h => by rw [if_pos h] at c18; exact absurd c18 (by decide)
          exact inc _ (by rw [hs, if_neg hb]; exact h1)
  refine gh_iconst C 0 dR_doRemoves_0 (by decide) ?_
  refine gh_istore_n C [some (.ref (y 0)), some (.int (nI e)), some (.int 0)] dR_doRemoves_1 rfl (Nat.le_of_ble_eq_true rfl) ?_
  exact loop1 16 0 g (by omega) h0
def ud1 (T : SR) (e i D : Nat) : SR := bpR (stR T e (2 * i) (T.2 51 i)) e i D
def udR (R : SR) (e D : Nat) (M : Int32) : Nat → SR
  | 0 => R
  | i + 1 => if tb M i = true then ud1 (udR R e D M i) e i D else udR R e D M i
theorem ud1_f (T : SR) (e i D : Nat) : (ud1 T e i D).1 = T.1 ∧ ∀ f, f ≠ 22 → f ≠ 23 → f ≠ 24 → (ud1 T e i D).2 f = T.2 f := by
  refine ⟨bpR_1 _ e i D, fun f h1 h2 h3 => ?_⟩
  simp only [ud1]
  rw [bpR_2 _ e i D h1 h2]
  simp [stR, ra, h1, h2, h3]
theorem udR_f (R : SR) (e D : Nat) (M : Int32) (i : Nat) : (udR R e D M i).1 = R.1 ∧ ∀ f, f ≠ 22 → f ≠ 23 → f ≠ 24 → (udR R e D M i).2 f = R.2 f := by
  induction i with
  | zero => exact ⟨rfl, fun _ _ _ _ => rfl⟩
  | succ i ih =>
    simp only [udR]
    by_cases h : tb M i = true
    · rw [if_pos h]
      have h9 := ud1_f (udR R e D M i) e i D
      exact ⟨h9.1.trans ih.1, fun f h1 h2 h3 => (h9.2 f h1 h2 h3).trans (ih.2 f h1 h2 h3)⟩
    · rw [if_neg h]; exact ih
set_option maxRecDepth 100000 in
set_option maxHeartbeats 4000000 in
theorem r_doUpdates (l : Launch) (d : gh_D) (g : gh_H) {y : Nat → Nat} {R : SR} (hR : rR g y R) (e D : Nat) (he : e < 60) (hD : R.2 13 e = nI D) (hD4 : D ≤ 4) : gh_C l d mR_doUpdates (rr 2 0 0) [.ref (y 0), .int (nI e)] g (fun v g1 => v = none ∧ rQ g g1 y (udR R e D (R.2 18 e) 16)) := by
  refine gh_of [some (.ref (y 0)), some (.int (nI e)), none] (by decide) rfl (Nat.le_of_ble_eq_true rfl) (by simp [Value.category]) (fun z C hQ => ?_)
  show gh_W l d z 0 [some (.ref (y 0)), some (.int (nI e)), none] [] g 0 0
  have h0 := rQ.rf hR
  obtain ⟨M, eM⟩ : ∃ M, M = R.2 18 e := ⟨_, rfl⟩
  rw [← eM] at hQ
  have loop1 : ∀ (c i : Nat) (g1 : gh_H), i + c = 16 → rQ g g1 y (udR R e D M i) → gh_W l d z 2 [some (.ref (y 0)), some (.int (nI e)), some (.int (nI i))] [] g1 0 0 := by
    intro c
    induction c with
    | zero =>
      intro i g1 hi h1
      have hi : i = 16 := by omega
      subst hi
      refine gh_iload_n C dR_doUpdates_2 rfl ?_
      refine gh_bipush C 16 dR_doUpdates_3 (by decide) ?_
      refine gh_icmp_ge C 50 dR_doUpdates_5 (by decide) (fun c5 => ?_) (fun c5 => ?_)
      ·
        refine gh_vret C hQ rfl dR_doUpdates_50 ?_
        exact ⟨rfl, h1⟩
      · exact absurd (nI_le (Nat.le_refl 16) (by decide)) c5
    | succ c ih =>
      intro i g1 hi h1
      have hi16 : i < 16 := by omega
      have inc : ∀ (g2 : gh_H), rQ g g2 y (udR R e D M (i + 1)) → gh_W l d z 44 [some (.ref (y 0)), some (.int (nI e)), some (.int (nI i))] [] g2 0 0 := by
        intro g2 h2
        refine gh_iinc C (nI (i + 1)) [some (.ref (y 0)), some (.int (nI e)), some (.int (nI (i + 1)))] dR_doUpdates_44 rfl (gh_inc i) rfl ?_
        refine gh_goto C 2 dR_doUpdates_47 (by decide) ?_
        exact ih (i + 1) g2 (by omega) h2
      have hf := udR_f R e D M i
      obtain ⟨T, eT⟩ : ∃ T, T = udR R e D M i := ⟨_, rfl⟩
      have hs : udR R e D M (i + 1) = if tb M i = true then ud1 T e i D else T := by rw [eT]; rfl
      rw [← eT] at h1 hf
      have h18 : T.2 18 e = M := by rw [hf.2 18 (by decide) (by decide) (by decide)]; exact eM.symm
      refine gh_iload_n C dR_doUpdates_2 rfl ?_
      refine gh_bipush C 16 dR_doUpdates_3 (by decide) ?_
      refine gh_icmp_ge C 50 dR_doUpdates_5 (by decide) (fun c5 => ?_) (fun c5 => ?_)
      · exact absurd c5 (nI_ge hi16 (by decide))
      ·
        refine gh_aload_n C dR_doUpdates_8 rfl ?_
        refine rw_get C h1 fR_53 rfl dR_doUpdates_9 ?_
        refine gh_iload_n C dR_doUpdates_12 rfl ?_
        refine rw_ild C h1 18 60 ⟨rfl, rfl, rfl, by decide⟩ (e) rfl (by omega) dR_doUpdates_13 ?_
        refine gh_ti (M) h18 ?_
        refine gh_iload_n C dR_doUpdates_14 rfl ?_
        refine gh_ishr C dR_doUpdates_15 ?_
        refine gh_iconst C 1 dR_doUpdates_16 (by decide) ?_
        refine gh_iand C dR_doUpdates_17 ?_
        refine gh_ti (if tb M i = true then 1 else 0) (shr_bit _ (by omega)) ?_
        refine gh_if_ne C 24 dR_doUpdates_18 (by decide) (fun c18 => ?_) (fun c18 => ?_)
        ·
          have hb : tb M i = true := by
            by_cases h : tb M i = true
            · exact h
            · rw [if_neg h] at c18; exact absurd rfl c18
          refine gh_aload_n C dR_doUpdates_24 rfl ?_
          refine gh_iload_n C dR_doUpdates_25 rfl ?_
          refine gh_iconst C 2 dR_doUpdates_26 (by decide) ?_
          refine gh_iload_n C dR_doUpdates_27 rfl ?_
          refine gh_imul C dR_doUpdates_28 ?_
          refine gh_ti (nI (2 * i)) (pk_mul 2 i) ?_
          refine gh_aload_n C dR_doUpdates_29 rfl ?_
          refine rw_get C h1 fR_140 rfl dR_doUpdates_30 ?_
          refine gh_iload_n C dR_doUpdates_33 rfl ?_
          refine rw_ild C h1 51 16 ⟨rfl, rfl, rfl, by decide⟩ (i) rfl (by omega) dR_doUpdates_34 ?_
          refine gh_callV C [.int (nI e), .int (nI (2 * i)), .int (T.2 51 i)] (r_set l d _ h1.1 e (2 * i) (T.2 51 i) he (by omega)) lR_204 wR_set vR_set h1.1.1 rfl rfl rfl (Nat.le_of_ble_eq_true rfl) ⟨Nat.le_of_ble_eq_true rfl, Nat.le_of_ble_eq_true rfl⟩ (Nat.le_of_ble_eq_true rfl) (Nat.le_of_ble_eq_true rfl) dR_doUpdates_35 (fun v101 g101 k101 => ?_)
          obtain ⟨rfl, h101⟩ := k101
          replace h101 := h1.tr h101
          refine gh_aload_n C dR_doUpdates_38 rfl ?_
          refine gh_iload_n C dR_doUpdates_39 rfl ?_
          refine gh_iload_n C dR_doUpdates_40 rfl ?_
          refine gh_callV C [.int (nI e), .int (nI i)] (r_blankPath l d _ h101.1 e i D he hi16 (by simp only [stR, ra]; rw [hf.2 13 (by decide) (by decide) (by decide)]; exact hD) hD4) lR_198 wR_blankPath vR_blankPath h101.1.1 rfl rfl rfl (Nat.le_of_ble_eq_true rfl) ⟨Nat.le_of_ble_eq_true rfl, Nat.le_of_ble_eq_true rfl⟩ (Nat.le_of_ble_eq_true rfl) (Nat.le_of_ble_eq_true rfl) dR_doUpdates_41 (fun v102 g102 k102 => ?_)
          obtain ⟨rfl, h102⟩ := k102
          replace h102 := h101.tr h102
          exact inc _ (by rw [hs, if_pos hb]; exact h102)
        · refine gh_goto C 44 dR_doUpdates_21 (by decide) ?_
          have hb : ¬ tb M i = true := fun h => by rw [if_pos h] at c18; exact absurd c18 (by decide)
          exact inc _ (by rw [hs, if_neg hb]; exact h1)
  refine gh_iconst C 0 dR_doUpdates_0 (by decide) ?_
  refine gh_istore_n C [some (.ref (y 0)), some (.int (nI e)), some (.int 0)] dR_doUpdates_1 rfl (Nat.le_of_ble_eq_true rfl) ?_
  exact loop1 16 0 g (by omega) h0
