/-! isKnown, isOpen, known, holds -/
set_option maxRecDepth 100000 in
set_option maxHeartbeats 4000000 in
theorem r_isKnown (l : Launch) (d : gh_D) (g : gh_H) {y : Nat → Nat} {R : SR} (hR : rR g y R) (e s : Nat) (hw : wfK R) (hE60 : R.1 12 ≤ 60) (he : e < R.1 12) (hs : R.2 14 e = nI s) (hs1 : s < R.1 1) : gh_C l d mR_isKnown (rr 2 0 0) [.ref (y 0), .int (nI e)] g (fun v g1 => ∃ (f : Nat → Int32) (x : Int32), v = some (.int x) ∧ (x = 0 ∨ x = 1) ∧ (x = 1 ↔ KnR R (s)) ∧ rQ g g1 y (ra (ri R 0 0) 6 f)) := by
  have hN := hw.1
  refine gh_of [some (.ref (y 0)), some (.int (nI e))] (by decide) rfl (Nat.le_of_ble_eq_true rfl) (by simp [Value.category]) (fun z C hQ => ?_)
  show gh_W l d z 0 [some (.ref (y 0)), some (.int (nI e))] [] g 0 0
  have h0 := rQ.rf hR
  refine gh_aload_n C dR_isKnown_0 rfl ?_
  refine gh_iconst C 0 dR_isKnown_1 (by decide) ?_
  refine rw_put C h0 (0) rfl pR_155 (by decide) rfl (by decide) (fun _ => rfl) (fun _ => rfl) dR_isKnown_2 (fun g101 h101 => ?_)
  refine gh_iload_n C dR_isKnown_5 rfl ?_
  refine gh_aload_n C dR_isKnown_6 rfl ?_
  refine rw_get C h101 fR_151 rfl dR_isKnown_7 ?_
  refine gh_ti (nI (R.1 12)) rfl ?_
  refine gh_callS C [.int (nI e), .int (nI (R.1 12))] (r_inn l d _ (R.1 12) (nI e)) lR_264 wR_in sR_in rfl rfl (Nat.le_of_ble_eq_true rfl) ⟨Nat.le_of_ble_eq_true rfl, Nat.le_of_ble_eq_true rfl⟩ (Nat.le_of_ble_eq_true rfl) (Nat.le_of_ble_eq_true rfl) dR_isKnown_10 (fun v102 g102 k102 => ?_)
  obtain ⟨rfl, e102⟩ := k102
  subst g102
  rw [if_pos (inn_n he (by omega))]
  refine gh_if_ne C 18 dR_isKnown_13 (by decide) (fun c13 => ?_) (fun c13 => ?_)
  ·
    refine gh_aload_n C dR_isKnown_18 rfl ?_
    refine gh_callV C [] ((r_intrude l d _ h101.1 hw : gh_C l d mR_intrude (rr 1 0 0) [.ref (y 0)] _ (fun v g1 => v = none ∧ ∃ f : Nat → Int32, rQ _ g1 y (ra (ri R 0 0) 6 f) ∧ b01 (R.1 1) f ∧ ∀ k, k < R.1 1 → (f k = 1 ↔ KnR R k)))) lR_296 wR_intrude vR_intrude h101.1.1 rfl rfl rfl (Nat.le_of_ble_eq_true rfl) ⟨Nat.le_of_ble_eq_true rfl, Nat.le_of_ble_eq_true rfl⟩ (Nat.le_of_ble_eq_true rfl) (Nat.le_of_ble_eq_true rfl) dR_isKnown_19 (fun v103 g103 k103 => ?_)
    obtain ⟨rfl, f, h103, bq, iq⟩ := k103
    replace h103 := h101.tr h103
    refine gh_aload_n C dR_isKnown_22 rfl ?_
    refine rw_get C h103 fR_23 rfl dR_isKnown_23 ?_
    refine gh_aload_n C dR_isKnown_26 rfl ?_
    refine rw_get C h103 fR_41 rfl dR_isKnown_27 ?_
    refine gh_iload_n C dR_isKnown_30 rfl ?_
    refine rw_ild C h103 14 60 ⟨rfl, rfl, rfl, by decide⟩ (e) rfl (by omega) dR_isKnown_31 ?_
    refine gh_ti (nI s) hs ?_
    refine rw_zld C h103 6 2600 ⟨rfl, rfl, rfl, by decide⟩ (s) rfl (by omega) dR_isKnown_32 ?_
    refine gh_ti (f s) rfl ?_
    refine gh_zret C hQ rfl (bq s hs1) dR_isKnown_33 ?_
    exact ⟨f, f s, rfl, bq s hs1, iq s hs1, h103⟩
  · exact absurd c13 (by decide)
set_option maxRecDepth 100000 in
set_option maxHeartbeats 4000000 in
theorem r_isKnownX (l : Launch) (d : gh_D) (g : gh_H) {y : Nat → Nat} {R : SR} (hR : rR g y R) (x : Int32) (hx : ¬ inn (R.1 12) x = true) : gh_C l d mR_isKnown (rr 2 0 0) [.ref (y 0), .int x] g (fun v g1 => v = some (.int 0) ∧ rQ g g1 y (ri R 0 0)) := by
  refine gh_of [some (.ref (y 0)), some (.int x)] (by decide) rfl (Nat.le_of_ble_eq_true rfl) (by simp [Value.category]) (fun z C hQ => ?_)
  show gh_W l d z 0 [some (.ref (y 0)), some (.int x)] [] g 0 0
  have h0 := rQ.rf hR
  refine gh_aload_n C dR_isKnown_0 rfl ?_
  refine gh_iconst C 0 dR_isKnown_1 (by decide) ?_
  refine rw_put C h0 (0) rfl pR_155 (by decide) rfl (by decide) (fun _ => rfl) (fun _ => rfl) dR_isKnown_2 (fun g101 h101 => ?_)
  refine gh_iload_n C dR_isKnown_5 rfl ?_
  refine gh_aload_n C dR_isKnown_6 rfl ?_
  refine rw_get C h101 fR_151 rfl dR_isKnown_7 ?_
  refine gh_ti (nI (R.1 12)) rfl ?_
  refine gh_callS C [.int x, .int (nI (R.1 12))] (r_inn l d _ (R.1 12) x) lR_264 wR_in sR_in rfl rfl (Nat.le_of_ble_eq_true rfl) ⟨Nat.le_of_ble_eq_true rfl, Nat.le_of_ble_eq_true rfl⟩ (Nat.le_of_ble_eq_true rfl) (Nat.le_of_ble_eq_true rfl) dR_isKnown_10 (fun v102 g102 k102 => ?_)
  obtain ⟨rfl, e102⟩ := k102
  subst g102
  rw [if_neg hx]
  refine gh_if_ne C 18 dR_isKnown_13 (by decide) (fun c13 => ?_) (fun c13 => ?_)
  · exact absurd (by decide) c13
  ·
    refine gh_iconst C 0 dR_isKnown_16 (by decide) ?_
    refine gh_zret C hQ rfl (by simp) dR_isKnown_17 ?_
    exact ⟨rfl, h101⟩
theorem tW31 {D : Nat} (h : D ≤ 4) : tW D ≤ 31 := by
  have : D = 0 ∨ D = 1 ∨ D = 2 ∨ D = 3 ∨ D = 4 := by omega
  rcases this with h | h | h | h | h <;> subst h <;> decide
set_option maxRecDepth 100000 in
set_option maxHeartbeats 4000000 in
theorem r_isOpen (l : Launch) (d : gh_D) (g : gh_H) {y : Nat → Nat} {R : SR} (hR : rR g y R) (e u s D : Nat) (hw : wfK R) (hE60 : R.1 12 ≤ 60) (he : e < R.1 12) (hD : R.2 13 e = nI D) (hD4 : D ≤ 4) (hu : u < tW D) (hs : R.2 22 (31 * e + u) = nI s) (hs1 : s < R.1 1) : gh_C l d mR_isOpen (rr 2 0 0) [.ref (y 0), .int (nI e), .int (nI u)] g (fun v g1 => ∃ (f : Nat → Int32) (x : Int32), v = some (.int x) ∧ (x = 0 ∨ x = 1) ∧ (x = 1 ↔ KnR R (s)) ∧ rQ g g1 y (ra (ri R 0 0) 6 f)) := by
  have hN := hw.1
  have hT := tW31 hD4
  have hiW : inn (tW D) (nI u) = true := inn_n hu (by omega)
  refine gh_of [some (.ref (y 0)), some (.int (nI e)), some (.int (nI u))] (by decide) rfl (Nat.le_of_ble_eq_true rfl) (by simp [Value.category]) (fun z C hQ => ?_)
  show gh_W l d z 0 [some (.ref (y 0)), some (.int (nI e)), some (.int (nI u))] [] g 0 0
  have h0 := rQ.rf hR
  refine gh_aload_n C dR_isOpen_0 rfl ?_
  refine gh_iconst C 0 dR_isOpen_1 (by decide) ?_
  refine rw_put C h0 (0) rfl pR_155 (by decide) rfl (by decide) (fun _ => rfl) (fun _ => rfl) dR_isOpen_2 (fun g101 h101 => ?_)
  refine gh_iload_n C dR_isOpen_5 rfl ?_
  refine gh_aload_n C dR_isOpen_6 rfl ?_
  refine rw_get C h101 fR_151 rfl dR_isOpen_7 ?_
  refine gh_ti (nI (R.1 12)) rfl ?_
  refine gh_callS C [.int (nI e), .int (nI (R.1 12))] (r_inn l d _ (R.1 12) (nI e)) lR_264 wR_in sR_in rfl rfl (Nat.le_of_ble_eq_true rfl) ⟨Nat.le_of_ble_eq_true rfl, Nat.le_of_ble_eq_true rfl⟩ (Nat.le_of_ble_eq_true rfl) (Nat.le_of_ble_eq_true rfl) dR_isOpen_10 (fun v102 g102 k102 => ?_)
  obtain ⟨rfl, e102⟩ := k102
  subst g102
  rw [if_pos (inn_n he (by omega))]
  refine gh_if_eq C 43 dR_isOpen_13 (by decide) (fun c13 => ?_) (fun c13 => ?_)
  · exact absurd c13 (by decide)
  ·
    refine gh_iload_n C dR_isOpen_16 rfl ?_
    refine gh_aload_n C dR_isOpen_17 rfl ?_
    refine gh_iload_n C dR_isOpen_18 rfl ?_
    refine gh_callV C [.int (nI e)] (r_width l d _ h101.1 e D (by omega) hD hD4) lR_192 wR_width vR_width h101.1.1 rfl rfl rfl (Nat.le_of_ble_eq_true rfl) ⟨Nat.le_of_ble_eq_true rfl, Nat.le_of_ble_eq_true rfl⟩ (Nat.le_of_ble_eq_true rfl) (Nat.le_of_ble_eq_true rfl) dR_isOpen_19 (fun v103 g103 k103 => ?_)
    obtain ⟨rfl, e103⟩ := k103
    subst g103
    refine gh_callS C [.int (nI u), .int (nI (tW D))] (r_inn l d _ (tW D) (nI u)) lR_264 wR_in sR_in rfl rfl (Nat.le_of_ble_eq_true rfl) ⟨Nat.le_of_ble_eq_true rfl, Nat.le_of_ble_eq_true rfl⟩ (Nat.le_of_ble_eq_true rfl) (Nat.le_of_ble_eq_true rfl) dR_isOpen_22 (fun v104 g104 k104 => ?_)
    obtain ⟨rfl, e104⟩ := k104
    subst g104
    rw [if_pos hiW]
    refine gh_if_eq C 43 dR_isOpen_25 (by decide) (fun c25 => ?_) (fun c25 => ?_)
    · exact absurd c25 (by decide)
    ·
      refine gh_aload_n C dR_isOpen_28 rfl ?_
      refine rw_get C h101 fR_65 rfl dR_isOpen_29 ?_
      refine gh_bipush C 31 dR_isOpen_32 (by decide) ?_
      refine gh_iload_n C dR_isOpen_34 rfl ?_
      refine gh_imul C dR_isOpen_35 ?_
      refine gh_ti (nI (31 * e)) (pk_mul 31 e) ?_
      refine gh_iload_n C dR_isOpen_36 rfl ?_
      refine gh_iadd C dR_isOpen_37 ?_
      refine gh_ti (nI (31 * e + u)) (nI_add (31 * e) u) ?_
      refine rw_ild C h101 22 1860 ⟨rfl, rfl, rfl, by decide⟩ (31 * e + u) rfl (by omega) dR_isOpen_38 ?_
      refine gh_ti (nI s) hs ?_
      refine gh_iconst C (-1) dR_isOpen_39 (by decide) ?_
      refine gh_icmp_ne C 45 dR_isOpen_40 (by decide) (fun c40 => ?_) (fun c40 => ?_)
      ·
        refine gh_aload_n C dR_isOpen_45 rfl ?_
        refine gh_callV C [] ((r_intrude l d _ h101.1 hw : gh_C l d mR_intrude (rr 1 0 0) [.ref (y 0)] _ (fun v g1 => v = none ∧ ∃ f : Nat → Int32, rQ _ g1 y (ra (ri R 0 0) 6 f) ∧ b01 (R.1 1) f ∧ ∀ k, k < R.1 1 → (f k = 1 ↔ KnR R k)))) lR_296 wR_intrude vR_intrude h101.1.1 rfl rfl rfl (Nat.le_of_ble_eq_true rfl) ⟨Nat.le_of_ble_eq_true rfl, Nat.le_of_ble_eq_true rfl⟩ (Nat.le_of_ble_eq_true rfl) (Nat.le_of_ble_eq_true rfl) dR_isOpen_46 (fun v105 g105 k105 => ?_)
        obtain ⟨rfl, f, h105, bq, iq⟩ := k105
        replace h105 := h101.tr h105
        refine gh_aload_n C dR_isOpen_49 rfl ?_
        refine rw_get C h105 fR_23 rfl dR_isOpen_50 ?_
        refine gh_aload_n C dR_isOpen_53 rfl ?_
        refine rw_get C h105 fR_65 rfl dR_isOpen_54 ?_
        refine gh_bipush C 31 dR_isOpen_57 (by decide) ?_
        refine gh_iload_n C dR_isOpen_59 rfl ?_
        refine gh_imul C dR_isOpen_60 ?_
        refine gh_ti (nI (31 * e)) (pk_mul 31 e) ?_
        refine gh_iload_n C dR_isOpen_61 rfl ?_
        refine gh_iadd C dR_isOpen_62 ?_
        refine gh_ti (nI (31 * e + u)) (nI_add (31 * e) u) ?_
        refine rw_ild C h105 22 1860 ⟨rfl, rfl, rfl, by decide⟩ (31 * e + u) rfl (by omega) dR_isOpen_63 ?_
        refine gh_ti (nI s) hs ?_
        refine rw_zld C h105 6 2600 ⟨rfl, rfl, rfl, by decide⟩ (s) rfl (by omega) dR_isOpen_64 ?_
        refine gh_ti (f s) rfl ?_
        refine gh_zret C hQ rfl (bq s hs1) dR_isOpen_65 ?_
        exact ⟨f, f s, rfl, bq s hs1, iq s hs1, h105⟩
      · exact absurd c40 (nI_ne1 (by omega))
set_option maxRecDepth 100000 in
set_option maxHeartbeats 4000000 in
theorem r_isOpenB (l : Launch) (d : gh_D) (g : gh_H) {y : Nat → Nat} {R : SR} (hR : rR g y R) (e u D : Nat) (hE60 : R.1 12 ≤ 60) (he : e < R.1 12) (hD : R.2 13 e = nI D) (hD4 : D ≤ 4) (hu : u < tW D) (hs : R.2 22 (31 * e + u) = -1) : gh_C l d mR_isOpen (rr 2 0 0) [.ref (y 0), .int (nI e), .int (nI u)] g (fun v g1 => v = some (.int 0) ∧ rQ g g1 y (ri R 0 0)) := by
  have hT := tW31 hD4
  have hiW : inn (tW D) (nI u) = true := inn_n hu (by omega)
  refine gh_of [some (.ref (y 0)), some (.int (nI e)), some (.int (nI u))] (by decide) rfl (Nat.le_of_ble_eq_true rfl) (by simp [Value.category]) (fun z C hQ => ?_)
  show gh_W l d z 0 [some (.ref (y 0)), some (.int (nI e)), some (.int (nI u))] [] g 0 0
  have h0 := rQ.rf hR
  refine gh_aload_n C dR_isOpen_0 rfl ?_
  refine gh_iconst C 0 dR_isOpen_1 (by decide) ?_
  refine rw_put C h0 (0) rfl pR_155 (by decide) rfl (by decide) (fun _ => rfl) (fun _ => rfl) dR_isOpen_2 (fun g101 h101 => ?_)
  refine gh_iload_n C dR_isOpen_5 rfl ?_
  refine gh_aload_n C dR_isOpen_6 rfl ?_
  refine rw_get C h101 fR_151 rfl dR_isOpen_7 ?_
  refine gh_ti (nI (R.1 12)) rfl ?_
  refine gh_callS C [.int (nI e), .int (nI (R.1 12))] (r_inn l d _ (R.1 12) (nI e)) lR_264 wR_in sR_in rfl rfl (Nat.le_of_ble_eq_true rfl) ⟨Nat.le_of_ble_eq_true rfl, Nat.le_of_ble_eq_true rfl⟩ (Nat.le_of_ble_eq_true rfl) (Nat.le_of_ble_eq_true rfl) dR_isOpen_10 (fun v102 g102 k102 => ?_)
  obtain ⟨rfl, e102⟩ := k102
  subst g102
  rw [if_pos (inn_n he (by omega))]
  refine gh_if_eq C 43 dR_isOpen_13 (by decide) (fun c13 => ?_) (fun c13 => ?_)
  · exact absurd c13 (by decide)
  ·
    refine gh_iload_n C dR_isOpen_16 rfl ?_
    refine gh_aload_n C dR_isOpen_17 rfl ?_
    refine gh_iload_n C dR_isOpen_18 rfl ?_
    refine gh_callV C [.int (nI e)] (r_width l d _ h101.1 e D (by omega) hD hD4) lR_192 wR_width vR_width h101.1.1 rfl rfl rfl (Nat.le_of_ble_eq_true rfl) ⟨Nat.le_of_ble_eq_true rfl, Nat.le_of_ble_eq_true rfl⟩ (Nat.le_of_ble_eq_true rfl) (Nat.le_of_ble_eq_true rfl) dR_isOpen_19 (fun v103 g103 k103 => ?_)
    obtain ⟨rfl, e103⟩ := k103
    subst g103
    refine gh_callS C [.int (nI u), .int (nI (tW D))] (r_inn l d _ (tW D) (nI u)) lR_264 wR_in sR_in rfl rfl (Nat.le_of_ble_eq_true rfl) ⟨Nat.le_of_ble_eq_true rfl, Nat.le_of_ble_eq_true rfl⟩ (Nat.le_of_ble_eq_true rfl) (Nat.le_of_ble_eq_true rfl) dR_isOpen_22 (fun v104 g104 k104 => ?_)
    obtain ⟨rfl, e104⟩ := k104
    subst g104
    rw [if_pos hiW]
    refine gh_if_eq C 43 dR_isOpen_25 (by decide) (fun c25 => ?_) (fun c25 => ?_)
    · exact absurd c25 (by decide)
    ·
      refine gh_aload_n C dR_isOpen_28 rfl ?_
      refine rw_get C h101 fR_65 rfl dR_isOpen_29 ?_
      refine gh_bipush C 31 dR_isOpen_32 (by decide) ?_
      refine gh_iload_n C dR_isOpen_34 rfl ?_
      refine gh_imul C dR_isOpen_35 ?_
      refine gh_ti (nI (31 * e)) (pk_mul 31 e) ?_
      refine gh_iload_n C dR_isOpen_36 rfl ?_
      refine gh_iadd C dR_isOpen_37 ?_
      refine gh_ti (nI (31 * e + u)) (nI_add (31 * e) u) ?_
      refine rw_ild C h101 22 1860 ⟨rfl, rfl, rfl, by decide⟩ (31 * e + u) rfl (by omega) dR_isOpen_38 ?_
      refine gh_ti ((-1)) hs ?_
      refine gh_iconst C (-1) dR_isOpen_39 (by decide) ?_
      refine gh_icmp_ne C 45 dR_isOpen_40 (by decide) (fun c40 => ?_) (fun c40 => ?_)
      · exact absurd rfl c40
      ·
        refine gh_iconst C 0 dR_isOpen_43 (by decide) ?_
        refine gh_zret C hQ rfl (by simp) dR_isOpen_44 ?_
        exact ⟨rfl, h101⟩
set_option maxRecDepth 100000 in
set_option maxHeartbeats 4000000 in
theorem r_isOpenX (l : Launch) (d : gh_D) (g : gh_H) {y : Nat → Nat} {R : SR} (hR : rR g y R) (x w : Int32) (hx : ¬ inn (R.1 12) x = true) : gh_C l d mR_isOpen (rr 2 0 0) [.ref (y 0), .int x, .int w] g (fun v g1 => v = some (.int 0) ∧ rQ g g1 y (ri R 0 0)) := by
  refine gh_of [some (.ref (y 0)), some (.int x), some (.int w)] (by decide) rfl (Nat.le_of_ble_eq_true rfl) (by simp [Value.category]) (fun z C hQ => ?_)
  show gh_W l d z 0 [some (.ref (y 0)), some (.int x), some (.int w)] [] g 0 0
  have h0 := rQ.rf hR
  refine gh_aload_n C dR_isOpen_0 rfl ?_
  refine gh_iconst C 0 dR_isOpen_1 (by decide) ?_
  refine rw_put C h0 (0) rfl pR_155 (by decide) rfl (by decide) (fun _ => rfl) (fun _ => rfl) dR_isOpen_2 (fun g101 h101 => ?_)
  refine gh_iload_n C dR_isOpen_5 rfl ?_
  refine gh_aload_n C dR_isOpen_6 rfl ?_
  refine rw_get C h101 fR_151 rfl dR_isOpen_7 ?_
  refine gh_ti (nI (R.1 12)) rfl ?_
  refine gh_callS C [.int x, .int (nI (R.1 12))] (r_inn l d _ (R.1 12) x) lR_264 wR_in sR_in rfl rfl (Nat.le_of_ble_eq_true rfl) ⟨Nat.le_of_ble_eq_true rfl, Nat.le_of_ble_eq_true rfl⟩ (Nat.le_of_ble_eq_true rfl) (Nat.le_of_ble_eq_true rfl) dR_isOpen_10 (fun v102 g102 k102 => ?_)
  obtain ⟨rfl, e102⟩ := k102
  subst g102
  rw [if_neg hx]
  refine gh_if_eq C 43 dR_isOpen_13 (by decide) (fun c13 => ?_) (fun c13 => ?_)
  ·
    refine gh_iconst C 0 dR_isOpen_43 (by decide) ?_
    refine gh_zret C hQ rfl (by simp) dR_isOpen_44 ?_
    exact ⟨rfl, h101⟩
  · exact absurd (by decide) c13
set_option maxRecDepth 100000 in
set_option maxHeartbeats 4000000 in
theorem r_isOpenW (l : Launch) (d : gh_D) (g : gh_H) {y : Nat → Nat} {R : SR} (hR : rR g y R) (e D : Nat) (w : Int32) (hE60 : R.1 12 ≤ 60) (he : e < R.1 12) (hD : R.2 13 e = nI D) (hD4 : D ≤ 4) (hx : ¬ inn (tW D) w = true) : gh_C l d mR_isOpen (rr 2 0 0) [.ref (y 0), .int (nI e), .int w] g (fun v g1 => v = some (.int 0) ∧ rQ g g1 y (ri R 0 0)) := by
  refine gh_of [some (.ref (y 0)), some (.int (nI e)), some (.int w)] (by decide) rfl (Nat.le_of_ble_eq_true rfl) (by simp [Value.category]) (fun z C hQ => ?_)
  show gh_W l d z 0 [some (.ref (y 0)), some (.int (nI e)), some (.int w)] [] g 0 0
  have h0 := rQ.rf hR
  refine gh_aload_n C dR_isOpen_0 rfl ?_
  refine gh_iconst C 0 dR_isOpen_1 (by decide) ?_
  refine rw_put C h0 (0) rfl pR_155 (by decide) rfl (by decide) (fun _ => rfl) (fun _ => rfl) dR_isOpen_2 (fun g101 h101 => ?_)
  refine gh_iload_n C dR_isOpen_5 rfl ?_
  refine gh_aload_n C dR_isOpen_6 rfl ?_
  refine rw_get C h101 fR_151 rfl dR_isOpen_7 ?_
  refine gh_ti (nI (R.1 12)) rfl ?_
  refine gh_callS C [.int (nI e), .int (nI (R.1 12))] (r_inn l d _ (R.1 12) (nI e)) lR_264 wR_in sR_in rfl rfl (Nat.le_of_ble_eq_true rfl) ⟨Nat.le_of_ble_eq_true rfl, Nat.le_of_ble_eq_true rfl⟩ (Nat.le_of_ble_eq_true rfl) (Nat.le_of_ble_eq_true rfl) dR_isOpen_10 (fun v102 g102 k102 => ?_)
  obtain ⟨rfl, e102⟩ := k102
  subst g102
  rw [if_pos (inn_n he (by omega))]
  refine gh_if_eq C 43 dR_isOpen_13 (by decide) (fun c13 => ?_) (fun c13 => ?_)
  · exact absurd c13 (by decide)
  ·
    refine gh_iload_n C dR_isOpen_16 rfl ?_
    refine gh_aload_n C dR_isOpen_17 rfl ?_
    refine gh_iload_n C dR_isOpen_18 rfl ?_
    refine gh_callV C [.int (nI e)] (r_width l d _ h101.1 e D (by omega) hD hD4) lR_192 wR_width vR_width h101.1.1 rfl rfl rfl (Nat.le_of_ble_eq_true rfl) ⟨Nat.le_of_ble_eq_true rfl, Nat.le_of_ble_eq_true rfl⟩ (Nat.le_of_ble_eq_true rfl) (Nat.le_of_ble_eq_true rfl) dR_isOpen_19 (fun v103 g103 k103 => ?_)
    obtain ⟨rfl, e103⟩ := k103
    subst g103
    refine gh_callS C [.int w, .int (nI (tW D))] (r_inn l d _ (tW D) w) lR_264 wR_in sR_in rfl rfl (Nat.le_of_ble_eq_true rfl) ⟨Nat.le_of_ble_eq_true rfl, Nat.le_of_ble_eq_true rfl⟩ (Nat.le_of_ble_eq_true rfl) (Nat.le_of_ble_eq_true rfl) dR_isOpen_22 (fun v104 g104 k104 => ?_)
    obtain ⟨rfl, e104⟩ := k104
    subst g104
    rw [if_neg hx]
    refine gh_if_eq C 43 dR_isOpen_25 (by decide) (fun c25 => ?_) (fun c25 => ?_)
    ·
      refine gh_iconst C 0 dR_isOpen_43 (by decide) ?_
      refine gh_zret C hQ rfl (by simp) dR_isOpen_44 ?_
      exact ⟨rfl, h101⟩
    · exact absurd (by decide) c25
def rCo (R : SR) (f : Nat → Int32) : Nat → Nat
  | 0 => 0
  | i + 1 => if f (R.2 14 i).toNatClampNeg = 1 then rCo R f i + 1 else rCo R f i
theorem rCo_le (R : SR) (f : Nat → Int32) (i : Nat) : rCo R f i ≤ i := by
  induction i with
  | zero => exact Nat.le_refl _
  | succ i ih =>
    simp only [rCo]
    by_cases h : f (R.2 14 i).toNatClampNeg = 1
    · rw [if_pos h]; omega
    · rw [if_neg h]; omega
set_option maxRecDepth 100000 in
set_option maxHeartbeats 4000000 in
theorem r_known (l : Launch) (d : gh_D) (g : gh_H) {y : Nat → Nat} {R : SR} (hR : rR g y R) (hw : wfK R) (hE60 : R.1 12 ≤ 60) (hs : ∀ e, e < R.1 12 → ∃ s, s < R.1 1 ∧ R.2 14 e = nI s) : gh_C l d mR_known (rr 2 0 0) [.ref (y 0)] g (fun v g1 => ∃ f : Nat → Int32, v = some (.int (nI (rCo R f (R.1 12)))) ∧ (∀ k, k < R.1 1 → (f k = 1 ↔ KnR R k)) ∧ rQ g g1 y (ra (ri R 0 0) 6 f)) := by
  refine gh_of [some (.ref (y 0)), none, none] (by decide) rfl (Nat.le_of_ble_eq_true rfl) (by simp [Value.category]) (fun z C hQ => ?_)
  show gh_W l d z 0 [some (.ref (y 0)), none, none] [] g 0 0
  have h0 := rQ.rf hR
  have hN := hw.1
  have loop : ∀ (f : Nat → Int32) (c i : Nat) (g1 : gh_H), b01 (R.1 1) f → (∀ k, k < R.1 1 → (f k = 1 ↔ KnR R k)) → i + c = R.1 12 → rQ g g1 y (ra (ri R 0 0) 6 f) → gh_W l d z 13 [some (.ref (y 0)), some (.int (nI (rCo R f i))), some (.int (nI i))] [] g1 0 0 := by
    intro f c
    induction c with
    | zero =>
      intro i g1 hb hk hi h1
      have hi : i = R.1 12 := by omega
      subst hi
      refine gh_iload_n C dR_known_13 rfl ?_
      refine gh_aload_n C dR_known_14 rfl ?_
      refine rw_get C h1 fR_151 rfl dR_known_15 ?_
      refine gh_ti (nI (R.1 12)) rfl ?_
      refine gh_icmp_ge C 49 dR_known_18 (by decide) (fun c18 => ?_) (fun c18 => ?_)
      ·
        refine gh_iload_n C dR_known_49 rfl ?_
        refine gh_iret C hQ rfl dR_known_50 ?_
        exact ⟨f, rfl, hk, h1⟩
      · exact absurd (nI_le (Nat.le_refl (R.1 12)) (by omega)) c18
    | succ c ih =>
      intro i g1 hb hk hi h1
      have hlt : i < R.1 12 := by omega
      obtain ⟨s, hs1, hsi⟩ := hs i hlt
      have hcl : (R.2 14 i).toNatClampNeg = s := by rw [hsi]; exact nI_clamp (by omega)
      have inc : ∀ (k : Int32), k = nI (rCo R f (i + 1)) → gh_W l d z 43 [some (.ref (y 0)), some (.int k), some (.int (nI i))] [] g1 0 0 := by
        intro k ek
        subst ek
        refine gh_iinc C (nI (i + 1)) [some (.ref (y 0)), some (.int (nI (rCo R f (i + 1)))), some (.int (nI (i + 1)))] dR_known_43 rfl (gh_inc i) rfl ?_
        refine gh_goto C 13 dR_known_46 (by decide) ?_
        exact ih (i + 1) g1 hb hk (by omega) h1
      refine gh_iload_n C dR_known_13 rfl ?_
      refine gh_aload_n C dR_known_14 rfl ?_
      refine rw_get C h1 fR_151 rfl dR_known_15 ?_
      refine gh_ti (nI (R.1 12)) rfl ?_
      refine gh_icmp_ge C 49 dR_known_18 (by decide) (fun c18 => ?_) (fun c18 => ?_)
      · exact absurd c18 (nI_ge hlt (by omega))
      ·
        refine gh_iload_n C dR_known_21 rfl ?_
        refine gh_aload_n C dR_known_22 rfl ?_
        refine rw_get C h1 fR_23 rfl dR_known_23 ?_
        refine gh_aload_n C dR_known_26 rfl ?_
        refine rw_get C h1 fR_41 rfl dR_known_27 ?_
        refine gh_iload_n C dR_known_30 rfl ?_
        refine rw_ild C h1 14 60 ⟨rfl, rfl, rfl, by decide⟩ (i) rfl (by omega) dR_known_31 ?_
        refine gh_ti (nI s) hsi ?_
        refine rw_zld C h1 6 2600 ⟨rfl, rfl, rfl, by decide⟩ (s) rfl (by omega) dR_known_32 ?_
        refine gh_ti (f s) rfl ?_
        refine gh_if_eq C 40 dR_known_33 (by decide) (fun c33 => ?_) (fun c33 => ?_)
        ·
          have hc9 : ¬ f (R.2 14 i).toNatClampNeg = 1 := by rw [hcl, c33]; decide
          refine gh_iconst C 0 dR_known_40 (by decide) ?_
          refine gh_iadd C dR_known_41 ?_
          refine gh_ti (nI (rCo R f i + 0)) (nI_add (rCo R f i) 0) ?_
          refine gh_istore_n C [some (.ref (y 0)), some (.int (nI (rCo R f i + 0))), some (.int (nI i))] dR_known_42 rfl (Nat.le_of_ble_eq_true rfl) ?_
          exact inc _ (by simp only [rCo]; first | rw [if_pos hc9] | (rw [if_neg hc9]; rfl))
        ·
          have hc9 : f (R.2 14 i).toNatClampNeg = 1 := by rw [hcl]; exact (hb s hs1).resolve_left c33
          refine gh_iconst C 1 dR_known_36 (by decide) ?_
          refine gh_goto C 41 dR_known_37 (by decide) ?_
          refine gh_iadd C dR_known_41 ?_
          refine gh_ti (nI (rCo R f i + 1)) (nI_add (rCo R f i) 1) ?_
          refine gh_istore_n C [some (.ref (y 0)), some (.int (nI (rCo R f i + 1))), some (.int (nI i))] dR_known_42 rfl (Nat.le_of_ble_eq_true rfl) ?_
          exact inc _ (by simp only [rCo]; first | rw [if_pos hc9] | (rw [if_neg hc9]; rfl))
  refine gh_aload_n C dR_known_0 rfl ?_
  refine gh_iconst C 0 dR_known_1 (by decide) ?_
  refine rw_put C h0 (0) rfl pR_155 (by decide) rfl (by decide) (fun _ => rfl) (fun _ => rfl) dR_known_2 (fun g101 h101 => ?_)
  refine gh_aload_n C dR_known_5 rfl ?_
  refine gh_callV C [] ((r_intrude l d _ h101.1 hw : gh_C l d mR_intrude (rr 1 0 0) [.ref (y 0)] _ (fun v g1 => v = none ∧ ∃ f : Nat → Int32, rQ _ g1 y (ra (ri R 0 0) 6 f) ∧ b01 (R.1 1) f ∧ ∀ k, k < R.1 1 → (f k = 1 ↔ KnR R k)))) lR_296 wR_intrude vR_intrude h101.1.1 rfl rfl rfl (Nat.le_of_ble_eq_true rfl) ⟨Nat.le_of_ble_eq_true rfl, Nat.le_of_ble_eq_true rfl⟩ (Nat.le_of_ble_eq_true rfl) (Nat.le_of_ble_eq_true rfl) dR_known_6 (fun v102 g102 k102 => ?_)
  obtain ⟨rfl, f, h102, bq, iq⟩ := k102
  replace h102 := h101.tr h102
  refine gh_iconst C 0 dR_known_9 (by decide) ?_
  refine gh_istore_n C [some (.ref (y 0)), some (.int 0), none] dR_known_10 rfl (Nat.le_of_ble_eq_true rfl) ?_
  refine gh_iconst C 0 dR_known_11 (by decide) ?_
  refine gh_istore_n C [some (.ref (y 0)), some (.int 0), some (.int 0)] dR_known_12 rfl (Nat.le_of_ble_eq_true rfl) ?_
  exact loop f (R.1 12) 0 _ bq iq (by omega) h102
theorem gaR_f (R : SR) (m uc : Nat) : (∀ f, f ≠ 46 → (gaR R m uc).1 f = R.1 f) ∧ (∀ f, f ≠ 47 → (gaR R m uc).2 f = R.2 f) ∧ (uc ≤ 20 → R.1 35 ≤ 60 → (gaR R m uc).1 46 ≤ 173) := by
  have hg := hF_f (ri R 46 0) (cnd R m uc)
  refine ⟨fun f hf => ?_, fun f hf => ?_, fun h1 h2 => ?_⟩
  · rw [show gaR R m uc = _ from rfl]
    exact (hg.1 f hf).trans (by simp [ri, hf])
  · exact hg.2.1 f hf
  · have cl := cnd_len R m h1 h2
    have e0 : (ri R 46 0).1 46 = 0 := by simp [ri]
    have := hg.2.2
    unfold gaR
    omega
set_option maxRecDepth 100000 in
set_option maxHeartbeats 4000000 in
theorem r_holds (l : Launch) (d : gh_D) (g : gh_H) {y : Nat → Nat} {R : SR} (hR : rR g y R) (m e u D uc : Nat) (k : Int32) (hm : m < 16) (hE60 : e < 60) (h27 : R.2 27 m = nI e) (hD : R.2 13 e = nI D) (hD4 : D ≤ 4) (hu : u < tW D) (hk : R.2 22 (31 * e + u) = k) (huc : R.2 31 m = nI uc) (hu20 : uc ≤ 20) (hP : R.1 35 ≤ 60) : gh_C l d mR_holds (rr 2 0 0) [.ref (y 0), .int (nI m), .int (nI u)] g (fun v g1 => v = some (.int (if k ≠ -1 ∧ k ∈ lst (gaR (ri R 0 0) m uc) then 1 else 0)) ∧ rQ g g1 y (gaR (ri R 0 0) m uc)) := by
  have hT := tW31 hD4
  have hiW : inn (tW D) (nI u) = true := inn_n hu (by omega)
  refine gh_of [some (.ref (y 0)), some (.int (nI m)), some (.int (nI u)), none] (by decide) rfl (Nat.le_of_ble_eq_true rfl) (by simp [Value.category]) (fun z C hQ => ?_)
  show gh_W l d z 0 [some (.ref (y 0)), some (.int (nI m)), some (.int (nI u)), none] [] g 0 0
  have h0 := rQ.rf hR
  refine gh_aload_n C dR_holds_0 rfl ?_
  refine gh_iconst C 0 dR_holds_1 (by decide) ?_
  refine rw_put C h0 (0) rfl pR_155 (by decide) rfl (by decide) (fun _ => rfl) (fun _ => rfl) dR_holds_2 (fun g101 h101 => ?_)
  refine gh_iload_n C dR_holds_5 rfl ?_
  refine gh_bipush C 16 dR_holds_6 (by decide) ?_
  refine gh_callS C [.int (nI m), .int 16] (r_inn l d _ 16 (nI m)) lR_264 wR_in sR_in rfl rfl (Nat.le_of_ble_eq_true rfl) ⟨Nat.le_of_ble_eq_true rfl, Nat.le_of_ble_eq_true rfl⟩ (Nat.le_of_ble_eq_true rfl) (Nat.le_of_ble_eq_true rfl) dR_holds_8 (fun v102 g102 k102 => ?_)
  obtain ⟨rfl, e102⟩ := k102
  subst g102
  rw [if_pos (inn_n hm (by decide))]
  refine gh_if_eq C 41 dR_holds_11 (by decide) (fun c11 => ?_) (fun c11 => ?_)
  · exact absurd c11 (by decide)
  ·
    refine gh_aload_n C dR_holds_14 rfl ?_
    refine rw_get C h101 fR_80 rfl dR_holds_15 ?_
    refine gh_iload_n C dR_holds_18 rfl ?_
    refine rw_ild C h101 27 16 ⟨rfl, rfl, rfl, by decide⟩ (m) rfl (by omega) dR_holds_19 ?_
    refine gh_ti (nI e) h27 ?_
    refine gh_iconst C (-1) dR_holds_20 (by decide) ?_
    refine gh_icmp_eq C 41 dR_holds_21 (by decide) (fun c21 => ?_) (fun c21 => ?_)
    · exact absurd c21 (nI_ne1 (by omega))
    ·
      refine gh_iload_n C dR_holds_24 rfl ?_
      refine gh_aload_n C dR_holds_25 rfl ?_
      refine gh_aload_n C dR_holds_26 rfl ?_
      refine rw_get C h101 fR_80 rfl dR_holds_27 ?_
      refine gh_iload_n C dR_holds_30 rfl ?_
      refine rw_ild C h101 27 16 ⟨rfl, rfl, rfl, by decide⟩ (m) rfl (by omega) dR_holds_31 ?_
      refine gh_ti (nI e) h27 ?_
      refine gh_callV C [.int (nI e)] (r_width l d _ h101.1 e D (by omega) hD hD4) lR_192 wR_width vR_width h101.1.1 rfl rfl rfl (Nat.le_of_ble_eq_true rfl) ⟨Nat.le_of_ble_eq_true rfl, Nat.le_of_ble_eq_true rfl⟩ (Nat.le_of_ble_eq_true rfl) (Nat.le_of_ble_eq_true rfl) dR_holds_32 (fun v103 g103 k103 => ?_)
      obtain ⟨rfl, e103⟩ := k103
      subst g103
      refine gh_callS C [.int (nI u), .int (nI (tW D))] (r_inn l d _ (tW D) (nI u)) lR_264 wR_in sR_in rfl rfl (Nat.le_of_ble_eq_true rfl) ⟨Nat.le_of_ble_eq_true rfl, Nat.le_of_ble_eq_true rfl⟩ (Nat.le_of_ble_eq_true rfl) (Nat.le_of_ble_eq_true rfl) dR_holds_35 (fun v104 g104 k104 => ?_)
      obtain ⟨rfl, e104⟩ := k104
      subst g104
      rw [if_pos hiW]
      refine gh_if_ne C 43 dR_holds_38 (by decide) (fun c38 => ?_) (fun c38 => ?_)
      ·
        refine gh_aload_n C dR_holds_43 rfl ?_
        refine rw_get C h101 fR_65 rfl dR_holds_44 ?_
        refine gh_bipush C 31 dR_holds_47 (by decide) ?_
        refine gh_aload_n C dR_holds_49 rfl ?_
        refine rw_get C h101 fR_80 rfl dR_holds_50 ?_
        refine gh_iload_n C dR_holds_53 rfl ?_
        refine rw_ild C h101 27 16 ⟨rfl, rfl, rfl, by decide⟩ (m) rfl (by omega) dR_holds_54 ?_
        refine gh_ti (nI e) h27 ?_
        refine gh_imul C dR_holds_55 ?_
        refine gh_ti (nI (31 * e)) (pk_mul 31 e) ?_
        refine gh_iload_n C dR_holds_56 rfl ?_
        refine gh_iadd C dR_holds_57 ?_
        refine gh_ti (nI (31 * e + u)) (nI_add (31 * e) u) ?_
        refine rw_ild C h101 22 1860 ⟨rfl, rfl, rfl, by decide⟩ (31 * e + u) rfl (by omega) dR_holds_58 ?_
        refine gh_ti (k) hk ?_
        refine gh_istore_n C [some (.ref (y 0)), some (.int (nI m)), some (.int (nI u)), some (.int k)] dR_holds_59 rfl (Nat.le_of_ble_eq_true rfl) ?_
        refine gh_aload_n C dR_holds_60 rfl ?_
        refine gh_iload_n C dR_holds_61 rfl ?_
        refine gh_callV C [.int (nI m)] (r_gather l d _ h101.1 m uc hm (fun _ => ⟨e, hE60, h27⟩) huc hu20 hP) lR_281 wR_gather vR_gather h101.1.1 rfl rfl rfl (Nat.le_of_ble_eq_true rfl) ⟨Nat.le_of_ble_eq_true rfl, Nat.le_of_ble_eq_true rfl⟩ (Nat.le_of_ble_eq_true rfl) (Nat.le_of_ble_eq_true rfl) dR_holds_62 (fun v105 g105 k105 => ?_)
        obtain ⟨rfl, h105⟩ := k105
        replace h105 := h101.tr h105
        refine gh_iload_n C dR_holds_65 rfl ?_
        refine gh_iconst C (-1) dR_holds_66 (by decide) ?_
        refine gh_icmp_eq C 82 dR_holds_67 (by decide) (fun c67 => ?_) (fun c67 => ?_)
        ·
          have hz : ¬ (k ≠ -1 ∧ k ∈ lst (gaR (ri R 0 0) m uc)) := fun h => h.1 c67
          refine gh_iconst C 0 dR_holds_82 (by decide) ?_
          refine gh_zret C hQ rfl (by simp) dR_holds_83 ?_
          first | exact ⟨by rw [if_pos hz], h105⟩ | exact ⟨by rw [if_neg hz], h105⟩
        ·
          refine gh_aload_n C dR_holds_70 rfl ?_
          refine gh_iload_n C dR_holds_71 rfl ?_
          refine gh_callV C [.int k] (r_isHeld l d _ h105.1 k (by have := (gaR_f (ri R 0 0) m uc).2.2 hu20 hP; omega)) lR_284 wR_isHeld vR_isHeld h105.1.1 rfl rfl rfl (Nat.le_of_ble_eq_true rfl) ⟨Nat.le_of_ble_eq_true rfl, Nat.le_of_ble_eq_true rfl⟩ (Nat.le_of_ble_eq_true rfl) (Nat.le_of_ble_eq_true rfl) dR_holds_72 (fun v106 g106 k106 => ?_)
          obtain ⟨rfl, e106⟩ := k106
          subst g106
          refine gh_if_eq C 82 dR_holds_75 (by decide) (fun c75 => ?_) (fun c75 => ?_)
          ·
            have hz : ¬ (k ≠ -1 ∧ k ∈ lst (gaR (ri R 0 0) m uc)) := fun h => by rw [if_pos h.2] at c75; exact absurd c75 (by decide)
            refine gh_iconst C 0 dR_holds_82 (by decide) ?_
            refine gh_zret C hQ rfl (by simp) dR_holds_83 ?_
            first | exact ⟨by rw [if_pos hz], h105⟩ | exact ⟨by rw [if_neg hz], h105⟩
          ·
            have hz : k ≠ -1 ∧ k ∈ lst (gaR (ri R 0 0) m uc) := ⟨c67, by
              by_cases h : k ∈ lst (gaR (ri R 0 0) m uc)
              · exact h
              · rw [if_neg h] at c75; exact absurd rfl c75⟩
            refine gh_iconst C 1 dR_holds_78 (by decide) ?_
            refine gh_goto C 83 dR_holds_79 (by decide) ?_
            refine gh_zret C hQ rfl (by simp) dR_holds_83 ?_
            first | exact ⟨by rw [if_pos hz], h105⟩ | exact ⟨by rw [if_neg hz], h105⟩
      · exact absurd c38 (by decide)
set_option maxRecDepth 100000 in
set_option maxHeartbeats 4000000 in
theorem r_holdsX (l : Launch) (d : gh_D) (g : gh_H) {y : Nat → Nat} {R : SR} (hR : rR g y R) (x w : Int32) (hx : ¬ inn 16 x = true) : gh_C l d mR_holds (rr 2 0 0) [.ref (y 0), .int x, .int w] g (fun v g1 => v = some (.int 0) ∧ rQ g g1 y (ri R 0 0)) := by
  refine gh_of [some (.ref (y 0)), some (.int x), some (.int w), none] (by decide) rfl (Nat.le_of_ble_eq_true rfl) (by simp [Value.category]) (fun z C hQ => ?_)
  show gh_W l d z 0 [some (.ref (y 0)), some (.int x), some (.int w), none] [] g 0 0
  have h0 := rQ.rf hR
  refine gh_aload_n C dR_holds_0 rfl ?_
  refine gh_iconst C 0 dR_holds_1 (by decide) ?_
  refine rw_put C h0 (0) rfl pR_155 (by decide) rfl (by decide) (fun _ => rfl) (fun _ => rfl) dR_holds_2 (fun g101 h101 => ?_)
  refine gh_iload_n C dR_holds_5 rfl ?_
  refine gh_bipush C 16 dR_holds_6 (by decide) ?_
  refine gh_callS C [.int x, .int 16] (r_inn l d _ 16 x) lR_264 wR_in sR_in rfl rfl (Nat.le_of_ble_eq_true rfl) ⟨Nat.le_of_ble_eq_true rfl, Nat.le_of_ble_eq_true rfl⟩ (Nat.le_of_ble_eq_true rfl) (Nat.le_of_ble_eq_true rfl) dR_holds_8 (fun v102 g102 k102 => ?_)
  obtain ⟨rfl, e102⟩ := k102
  subst g102
  rw [if_neg hx]
  refine gh_if_eq C 41 dR_holds_11 (by decide) (fun c11 => ?_) (fun c11 => ?_)
  ·
    refine gh_iconst C 0 dR_holds_41 (by decide) ?_
    refine gh_zret C hQ rfl (by simp) dR_holds_42 ?_
    exact ⟨rfl, h101⟩
  · exact absurd (by decide) c11
set_option maxRecDepth 100000 in
set_option maxHeartbeats 4000000 in
theorem r_holdsN (l : Launch) (d : gh_D) (g : gh_H) {y : Nat → Nat} {R : SR} (hR : rR g y R) (m : Nat) (w : Int32) (hm : m < 16) (h27 : R.2 27 m = -1) : gh_C l d mR_holds (rr 2 0 0) [.ref (y 0), .int (nI m), .int w] g (fun v g1 => v = some (.int 0) ∧ rQ g g1 y (ri R 0 0)) := by
  refine gh_of [some (.ref (y 0)), some (.int (nI m)), some (.int w), none] (by decide) rfl (Nat.le_of_ble_eq_true rfl) (by simp [Value.category]) (fun z C hQ => ?_)
  show gh_W l d z 0 [some (.ref (y 0)), some (.int (nI m)), some (.int w), none] [] g 0 0
  have h0 := rQ.rf hR
  refine gh_aload_n C dR_holds_0 rfl ?_
  refine gh_iconst C 0 dR_holds_1 (by decide) ?_
  refine rw_put C h0 (0) rfl pR_155 (by decide) rfl (by decide) (fun _ => rfl) (fun _ => rfl) dR_holds_2 (fun g101 h101 => ?_)
  refine gh_iload_n C dR_holds_5 rfl ?_
  refine gh_bipush C 16 dR_holds_6 (by decide) ?_
  refine gh_callS C [.int (nI m), .int 16] (r_inn l d _ 16 (nI m)) lR_264 wR_in sR_in rfl rfl (Nat.le_of_ble_eq_true rfl) ⟨Nat.le_of_ble_eq_true rfl, Nat.le_of_ble_eq_true rfl⟩ (Nat.le_of_ble_eq_true rfl) (Nat.le_of_ble_eq_true rfl) dR_holds_8 (fun v102 g102 k102 => ?_)
  obtain ⟨rfl, e102⟩ := k102
  subst g102
  rw [if_pos (inn_n hm (by decide))]
  refine gh_if_eq C 41 dR_holds_11 (by decide) (fun c11 => ?_) (fun c11 => ?_)
  · exact absurd c11 (by decide)
  ·
    refine gh_aload_n C dR_holds_14 rfl ?_
    refine rw_get C h101 fR_80 rfl dR_holds_15 ?_
    refine gh_iload_n C dR_holds_18 rfl ?_
    refine rw_ild C h101 27 16 ⟨rfl, rfl, rfl, by decide⟩ (m) rfl (by omega) dR_holds_19 ?_
    refine gh_ti ((-1)) h27 ?_
    refine gh_iconst C (-1) dR_holds_20 (by decide) ?_
    refine gh_icmp_eq C 41 dR_holds_21 (by decide) (fun c21 => ?_) (fun c21 => ?_)
    ·
      refine gh_iconst C 0 dR_holds_41 (by decide) ?_
      refine gh_zret C hQ rfl (by simp) dR_holds_42 ?_
      exact ⟨rfl, h101⟩
    · exact absurd rfl c21
set_option maxRecDepth 100000 in
set_option maxHeartbeats 4000000 in
theorem r_holdsW (l : Launch) (d : gh_D) (g : gh_H) {y : Nat → Nat} {R : SR} (hR : rR g y R) (m e D : Nat) (w : Int32) (hm : m < 16) (hE60 : e < 60) (h27 : R.2 27 m = nI e) (hD : R.2 13 e = nI D) (hD4 : D ≤ 4) (hx : ¬ inn (tW D) w = true) : gh_C l d mR_holds (rr 2 0 0) [.ref (y 0), .int (nI m), .int w] g (fun v g1 => v = some (.int 0) ∧ rQ g g1 y (ri R 0 0)) := by
  refine gh_of [some (.ref (y 0)), some (.int (nI m)), some (.int w), none] (by decide) rfl (Nat.le_of_ble_eq_true rfl) (by simp [Value.category]) (fun z C hQ => ?_)
  show gh_W l d z 0 [some (.ref (y 0)), some (.int (nI m)), some (.int w), none] [] g 0 0
  have h0 := rQ.rf hR
  refine gh_aload_n C dR_holds_0 rfl ?_
  refine gh_iconst C 0 dR_holds_1 (by decide) ?_
  refine rw_put C h0 (0) rfl pR_155 (by decide) rfl (by decide) (fun _ => rfl) (fun _ => rfl) dR_holds_2 (fun g101 h101 => ?_)
  refine gh_iload_n C dR_holds_5 rfl ?_
  refine gh_bipush C 16 dR_holds_6 (by decide) ?_
  refine gh_callS C [.int (nI m), .int 16] (r_inn l d _ 16 (nI m)) lR_264 wR_in sR_in rfl rfl (Nat.le_of_ble_eq_true rfl) ⟨Nat.le_of_ble_eq_true rfl, Nat.le_of_ble_eq_true rfl⟩ (Nat.le_of_ble_eq_true rfl) (Nat.le_of_ble_eq_true rfl) dR_holds_8 (fun v102 g102 k102 => ?_)
  obtain ⟨rfl, e102⟩ := k102
  subst g102
  rw [if_pos (inn_n hm (by decide))]
  refine gh_if_eq C 41 dR_holds_11 (by decide) (fun c11 => ?_) (fun c11 => ?_)
  · exact absurd c11 (by decide)
  ·
    refine gh_aload_n C dR_holds_14 rfl ?_
    refine rw_get C h101 fR_80 rfl dR_holds_15 ?_
    refine gh_iload_n C dR_holds_18 rfl ?_
    refine rw_ild C h101 27 16 ⟨rfl, rfl, rfl, by decide⟩ (m) rfl (by omega) dR_holds_19 ?_
    refine gh_ti (nI e) h27 ?_
    refine gh_iconst C (-1) dR_holds_20 (by decide) ?_
    refine gh_icmp_eq C 41 dR_holds_21 (by decide) (fun c21 => ?_) (fun c21 => ?_)
    · exact absurd c21 (nI_ne1 (by omega))
    ·
      refine gh_iload_n C dR_holds_24 rfl ?_
      refine gh_aload_n C dR_holds_25 rfl ?_
      refine gh_aload_n C dR_holds_26 rfl ?_
      refine rw_get C h101 fR_80 rfl dR_holds_27 ?_
      refine gh_iload_n C dR_holds_30 rfl ?_
      refine rw_ild C h101 27 16 ⟨rfl, rfl, rfl, by decide⟩ (m) rfl (by omega) dR_holds_31 ?_
      refine gh_ti (nI e) h27 ?_
      refine gh_callV C [.int (nI e)] (r_width l d _ h101.1 e D (by omega) hD hD4) lR_192 wR_width vR_width h101.1.1 rfl rfl rfl (Nat.le_of_ble_eq_true rfl) ⟨Nat.le_of_ble_eq_true rfl, Nat.le_of_ble_eq_true rfl⟩ (Nat.le_of_ble_eq_true rfl) (Nat.le_of_ble_eq_true rfl) dR_holds_32 (fun v103 g103 k103 => ?_)
      obtain ⟨rfl, e103⟩ := k103
      subst g103
      refine gh_callS C [.int w, .int (nI (tW D))] (r_inn l d _ (tW D) w) lR_264 wR_in sR_in rfl rfl (Nat.le_of_ble_eq_true rfl) ⟨Nat.le_of_ble_eq_true rfl, Nat.le_of_ble_eq_true rfl⟩ (Nat.le_of_ble_eq_true rfl) (Nat.le_of_ble_eq_true rfl) dR_holds_35 (fun v104 g104 k104 => ?_)
      obtain ⟨rfl, e104⟩ := k104
      subst g104
      rw [if_neg hx]
      refine gh_if_ne C 43 dR_holds_38 (by decide) (fun c38 => ?_) (fun c38 => ?_)
      · exact absurd (by decide) c38
      ·
        refine gh_iconst C 0 dR_holds_41 (by decide) ?_
        refine gh_zret C hQ rfl (by simp) dR_holds_42 ?_
        exact ⟨rfl, h101⟩
