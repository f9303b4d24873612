/-! nextPackage, meeting, tell, keep, advance -/
abbrev npQ (R : SR) (m i : Nat) (b : Option Nat) : Prop := R.2 36 i = nI m ∧ R.2 39 i ≠ -1 ∧ R.2 41 i = 0 ∧ (b = none ∨ R.2 39 i < R.2 39 (b.getD 0))
def np (R : SR) (m : Nat) : Nat → Option Nat
  | 0 => none
  | i + 1 => if npQ R m i (np R m i) then some i else np R m i
theorem np_lt (R : SR) (m : Nat) : ∀ i p, np R m i = some p → p < i
  | 0, p, h => by cases h
  | i + 1, p, h => by
    unfold np at h
    split at h
    · cases h; exact Nat.lt_succ_self _
    · exact Nat.lt_succ_of_lt (np_lt R m i p h)
set_option maxRecDepth 100000 in
set_option maxHeartbeats 4000000 in
theorem r_nextPackage (l : Launch) (d : gh_D) (g : gh_H) {y : Nat → Nat} {R : SR} (hR : rR g y R) (m : Nat) (hP : R.1 35 ≤ 60) : gh_C l d mR_nextPackage (rr 0 0 0) [.ref (y 0), .int (nI m)] g (fun v g1 => v = some (.int (oJ (np R m (R.1 35)))) ∧ g1 = g) := by
  refine gh_of [some (.ref (y 0)), some (.int (nI m)), none, none] (by decide) rfl (Nat.le_of_ble_eq_true rfl) (by simp [Value.category]) (fun z C hQ => ?_)
  show gh_W l d z 0 [some (.ref (y 0)), some (.int (nI m)), none, none] [] g 0 0
  have h0 := rQ.rf hR
  have loop : ∀ (c i : Nat), i + c = R.1 35 → gh_W l d z 4 [some (.ref (y 0)), some (.int (nI m)), some (.int (oJ (np R m i))), some (.int (nI i))] [] g 0 0 := by
    intro c
    induction c with
    | zero =>
      intro i hi
      have hi : i = R.1 35 := by omega
      subst hi
      refine gh_iload_n C dR_nextPackage_4 rfl ?_
      refine gh_aload_n C dR_nextPackage_5 rfl ?_
      refine rw_get C h0 fR_189 rfl dR_nextPackage_6 ?_
      refine gh_icmp_ge C 69 dR_nextPackage_9 (by decide) (fun c9 => ?_) (fun c9 => ?_)
      ·
        refine gh_iload_n C dR_nextPackage_69 rfl ?_
        refine gh_iret C hQ rfl dR_nextPackage_70 ?_
        exact ⟨rfl, rfl⟩
      · exact absurd (nI_le (Nat.le_refl (R.1 35)) (by omega)) c9
    | succ c ih =>
      intro i hi
      have hlt : i < R.1 35 := by omega
      have inc : ∀ (b : Int32), b = oJ (np R m (i + 1)) → gh_W l d z 63 [some (.ref (y 0)), some (.int (nI m)), some (.int b), some (.int (nI i))] [] g 0 0 := by
        intro b hb
        rw [hb]
        refine gh_iinc C (nI (i + 1)) [some (.ref (y 0)), some (.int (nI m)), some (.int (oJ (np R m (i + 1)))), some (.int (nI (i + 1)))] dR_nextPackage_63 rfl (gh_inc i) rfl ?_
        refine gh_goto C 4 dR_nextPackage_66 (by decide) ?_
        exact ih (i + 1) (by omega)
      refine gh_iload_n C dR_nextPackage_4 rfl ?_
      refine gh_aload_n C dR_nextPackage_5 rfl ?_
      refine rw_get C h0 fR_189 rfl dR_nextPackage_6 ?_
      refine gh_icmp_ge C 69 dR_nextPackage_9 (by decide) (fun c9 => ?_) (fun c9 => ?_)
      · exact absurd c9 (nI_ge hlt (by omega))
      ·
        refine gh_aload_n C dR_nextPackage_12 rfl ?_
        refine rw_get C h0 fR_104 rfl dR_nextPackage_13 ?_
        refine gh_iload_n C dR_nextPackage_16 rfl ?_
        refine rw_ild C h0 36 60 ⟨rfl, rfl, rfl, by decide⟩ (i) rfl (by omega) dR_nextPackage_17 ?_
        refine gh_iload_n C dR_nextPackage_18 rfl ?_
        refine gh_icmp_ne C 63 dR_nextPackage_19 (by decide) (fun c19 => ?_) (fun c19 => ?_)
        · exact inc _ (by rw [show np R m (i + 1) = np R m i from if_neg (fun h9 => c19 h9.1)])
        ·
          refine gh_aload_n C dR_nextPackage_22 rfl ?_
          refine rw_get C h0 fR_113 rfl dR_nextPackage_23 ?_
          refine gh_iload_n C dR_nextPackage_26 rfl ?_
          refine rw_ild C h0 39 60 ⟨rfl, rfl, rfl, by decide⟩ (i) rfl (by omega) dR_nextPackage_27 ?_
          refine gh_iconst C (-1) dR_nextPackage_28 (by decide) ?_
          refine gh_icmp_eq C 63 dR_nextPackage_29 (by decide) (fun c29 => ?_) (fun c29 => ?_)
          · exact inc _ (by rw [show np R m (i + 1) = np R m i from if_neg (fun h9 => h9.2.1 c29)])
          ·
            refine gh_aload_n C dR_nextPackage_32 rfl ?_
            refine rw_get C h0 fR_119 rfl dR_nextPackage_33 ?_
            refine gh_iload_n C dR_nextPackage_36 rfl ?_
            refine rw_zld C h0 41 60 ⟨rfl, rfl, rfl, by decide⟩ (i) rfl (by omega) dR_nextPackage_37 ?_
            refine gh_if_ne C 63 dR_nextPackage_38 (by decide) (fun c38 => ?_) (fun c38 => ?_)
            · exact inc _ (by rw [show np R m (i + 1) = np R m i from if_neg (fun h9 => c38 h9.2.2.1)])
            ·
              refine gh_iload_n C dR_nextPackage_41 rfl ?_
              refine gh_iconst C (-1) dR_nextPackage_42 (by decide) ?_
              refine gh_icmp_eq C 61 dR_nextPackage_43 (by decide) (fun c43 => ?_) (fun c43 => ?_)
              ·
                have hb : np R m i = none := by
                  cases hx : np R m i with
                  | none => rfl
                  | some p =>
                    rw [hx] at c43
                    have := np_lt R m i p hx
                    exact absurd c43 (nI_ne1 (by omega))
                have ez : np R m (i + 1) = some i := if_pos ⟨c19, c29, c38, Or.inl hb⟩
                refine gh_iload_n C dR_nextPackage_61 rfl ?_
                refine gh_istore_n C [some (.ref (y 0)), some (.int (nI m)), some (.int (nI i)), some (.int (nI i))] dR_nextPackage_62 rfl (Nat.le_of_ble_eq_true rfl) ?_
                exact inc _ (by rw [ez]; rfl)
              ·
                obtain ⟨p, hp⟩ : ∃ p, np R m i = some p := by
                  cases hx : np R m i with
                  | none => rw [hx] at c43; exact absurd rfl c43
                  | some p => exact ⟨p, rfl⟩
                have hpl := np_lt R m i p hp
                refine gh_aload_n C dR_nextPackage_46 rfl ?_
                refine rw_get C h0 fR_113 rfl dR_nextPackage_47 ?_
                refine gh_iload_n C dR_nextPackage_50 rfl ?_
                refine rw_ild C h0 39 60 ⟨rfl, rfl, rfl, by decide⟩ (i) rfl (by omega) dR_nextPackage_51 ?_
                refine gh_aload_n C dR_nextPackage_52 rfl ?_
                refine rw_get C h0 fR_113 rfl dR_nextPackage_53 ?_
                refine gh_iload_n C dR_nextPackage_56 rfl ?_
                refine rw_ild C h0 39 60 ⟨rfl, rfl, rfl, by decide⟩ (p) (by rw [hp]; rfl) (by omega) dR_nextPackage_57 ?_
                refine gh_icmp_ge C 63 dR_nextPackage_58 (by decide) (fun c58 => ?_) (fun c58 => ?_)
                · exact inc _ (by rw [show np R m (i + 1) = np R m i from if_neg (fun h9 => by
                    rcases h9.2.2.2 with h8 | h8
                    · rw [hp] at h8; cases h8
                    · rw [hp] at h8; exact absurd h8 (Int32.not_lt.mpr c58))])
                ·
                  have ez : np R m (i + 1) = some i := if_pos ⟨c19, c29, c38, Or.inr (by rw [hp]; exact Int32.not_le.mp c58)⟩
                  refine gh_iload_n C dR_nextPackage_61 rfl ?_
                  refine gh_istore_n C [some (.ref (y 0)), some (.int (nI m)), some (.int (nI i)), some (.int (nI i))] dR_nextPackage_62 rfl (Nat.le_of_ble_eq_true rfl) ?_
                  exact inc _ (by rw [ez]; rfl)
  refine gh_iconst C (-1) dR_nextPackage_0 (by decide) ?_
  refine gh_istore_n C [some (.ref (y 0)), some (.int (nI m)), some (.int (-1)), none] dR_nextPackage_1 rfl (Nat.le_of_ble_eq_true rfl) ?_
  refine gh_iconst C 0 dR_nextPackage_2 (by decide) ?_
  refine gh_istore_n C [some (.ref (y 0)), some (.int (nI m)), some (.int (-1)), some (.int 0)] dR_nextPackage_3 rfl (Nat.le_of_ble_eq_true rfl) ?_
  exact loop (R.1 35) 0 (by omega)
def oN (a : Nat) (w : Option Nat) : Int32 := match w with
  | none => -1
  | some h => nI (pn a (h + 1))
theorem bt1 {x : Int32} {v : Nat} (hv : v < 31) : (x >>> (nI v &&& 31)) &&& 1 = 1 ↔ ¬ x &&& bitN v = 0 := by
  rw [shr_bit x (by omega), and_bit' (by omega)]
  cases tb x v <;> simp
set_option maxRecDepth 100000 in
set_option maxHeartbeats 4000000 in
theorem r_meeting (l : Launch) (d : gh_D) (g : gh_H) {y : Nat → Nat} {R : SR} (hR : rR g y R) (e a D : Nat) (he : e < 60) (ha : a < 16) (hD : R.2 13 e = nI D) (hD4 : D ≤ 4) : gh_C l d mR_meeting (rr 1 0 0) [.ref (y 0), .int (nI e), .int (nI a)] g (fun v g1 => v = some (.int (oN a (lowc D (R.2 16 e) a))) ∧ g1 = g) := by
  refine gh_of [some (.ref (y 0)), some (.int (nI e)), some (.int (nI a)), none] (by decide) rfl (Nat.le_of_ble_eq_true rfl) (by simp [Value.category]) (fun z C hQ => ?_)
  show gh_W l d z 0 [some (.ref (y 0)), some (.int (nI e)), some (.int (nI a)), none] [] g 0 0
  have h0 := rQ.rf hR
  have loop : ∀ (c h : Nat), h + c = D → (∀ j, j < h → R.2 16 e &&& bitN (pn a (j + 1)) = 0) → gh_W l d z 2 [some (.ref (y 0)), some (.int (nI e)), some (.int (nI a)), some (.int (nI (h + 1)))] [] g 0 0 := by
    intro c
    induction c with
    | zero =>
      intro h hi hb
      have hi : h = D := by omega
      subst hi
      refine gh_iload_n C dR_meeting_2 rfl ?_
      refine gh_aload_n C dR_meeting_3 rfl ?_
      refine rw_get C h0 fR_38 rfl dR_meeting_4 ?_
      refine gh_iload_n C dR_meeting_7 rfl ?_
      refine rw_ild C h0 13 60 ⟨rfl, rfl, rfl, by decide⟩ (e) rfl (by omega) dR_meeting_8 ?_
      refine gh_ti (nI h) hD ?_
      refine gh_icmp_gt C 42 dR_meeting_9 (by decide) (fun c9 => ?_) (fun c9 => ?_)
      ·
        refine gh_iconst C (-1) dR_meeting_42 (by decide) ?_
        refine gh_iret C hQ rfl dR_meeting_43 ?_
        exact ⟨by rw [lowc_no hb]; rfl, rfl⟩
      · exact absurd (show nI h < nI (h + 1) from nI_lt (by omega) (by omega)) c9
    | succ c ih =>
      intro h hi hb
      have hv := pn_lt (h + 1) (by omega) a ha
      refine gh_iload_n C dR_meeting_2 rfl ?_
      refine gh_aload_n C dR_meeting_3 rfl ?_
      refine rw_get C h0 fR_38 rfl dR_meeting_4 ?_
      refine gh_iload_n C dR_meeting_7 rfl ?_
      refine rw_ild C h0 13 60 ⟨rfl, rfl, rfl, by decide⟩ (e) rfl (by omega) dR_meeting_8 ?_
      refine gh_ti (nI D) hD ?_
      refine gh_icmp_gt C 42 dR_meeting_9 (by decide) (fun c9 => ?_) (fun c9 => ?_)
      · exact absurd (show nI D < nI (h + 1) from c9) (nI_nlt (by omega) (by omega))
      ·
        refine gh_aload_n C dR_meeting_12 rfl ?_
        refine rw_get C h0 fR_47 rfl dR_meeting_13 ?_
        refine gh_iload_n C dR_meeting_16 rfl ?_
        refine rw_ild C h0 16 60 ⟨rfl, rfl, rfl, by decide⟩ (e) rfl (by omega) dR_meeting_17 ?_
        refine gh_iload_n C dR_meeting_18 rfl ?_
        refine gh_iload_n C dR_meeting_19 rfl ?_
        refine gh_callS C [.int (nI a), .int (nI (h + 1))] (r_above l d _ a (h + 1) ha (by omega)) lR_168 wR_above sR_above rfl rfl (Nat.le_of_ble_eq_true rfl) ⟨Nat.le_of_ble_eq_true rfl, Nat.le_of_ble_eq_true rfl⟩ (Nat.le_of_ble_eq_true rfl) (Nat.le_of_ble_eq_true rfl) dR_meeting_20 (fun v101 g101 k101 => ?_)
        obtain ⟨rfl, e101⟩ := k101
        subst g101
        refine gh_ishr C dR_meeting_23 ?_
        refine gh_iconst C 1 dR_meeting_24 (by decide) ?_
        refine gh_iand C dR_meeting_25 ?_
        refine gh_iconst C 1 dR_meeting_26 (by decide) ?_
        refine gh_icmp_ne C 36 dR_meeting_27 (by decide) (fun c27 => ?_) (fun c27 => ?_)
        ·
          have hz : R.2 16 e &&& bitN (pn a (h + 1)) = 0 := by
            by_cases h9 : R.2 16 e &&& bitN (pn a (h + 1)) = 0
            · exact h9
            · exact absurd ((bt1 hv).mpr h9) c27
          refine gh_iinc C (nI (h + 1 + 1)) [some (.ref (y 0)), some (.int (nI e)), some (.int (nI a)), some (.int (nI (h + 1 + 1)))] dR_meeting_36 rfl (gh_inc (h + 1)) rfl ?_
          refine gh_goto C 2 dR_meeting_39 (by decide) ?_
          exact ih (h + 1) (by omega) (fun j hj => by
            by_cases e9 : j = h
            · subst e9; exact hz
            · exact hb j (by omega))
        ·
          have hz := lowc_at (D := D) (show h < D by omega) ((bt1 hv).mp c27) hb
          refine gh_iload_n C dR_meeting_30 rfl ?_
          refine gh_iload_n C dR_meeting_31 rfl ?_
          refine gh_callS C [.int (nI a), .int (nI (h + 1))] (r_above l d _ a (h + 1) ha (by omega)) lR_168 wR_above sR_above rfl rfl (Nat.le_of_ble_eq_true rfl) ⟨Nat.le_of_ble_eq_true rfl, Nat.le_of_ble_eq_true rfl⟩ (Nat.le_of_ble_eq_true rfl) (Nat.le_of_ble_eq_true rfl) dR_meeting_32 (fun v102 g102 k102 => ?_)
          obtain ⟨rfl, e102⟩ := k102
          subst g102
          refine gh_iret C hQ rfl dR_meeting_35 ?_
          exact ⟨by rw [hz]; rfl, rfl⟩
  refine gh_iconst C 1 dR_meeting_0 (by decide) ?_
  refine gh_istore_n C [some (.ref (y 0)), some (.int (nI e)), some (.int (nI a)), some (.int 1)] dR_meeting_1 rfl (Nat.le_of_ble_eq_true rfl) ?_
  exact loop D 0 (by omega) (fun j hj => absurd hj (Nat.not_lt_zero j))
def tlR (R : SR) (m e a h0 : Nat) : Nat → SR
  | 0 => R
  | c + 1 => if R.2 16 e &&& bitN (pn a (h0 + c)) = 0 then tlR R m e a h0 c else ra (tlR R m e a h0 c) 33 (upd ((tlR R m e a h0 c).2 33) (31 * m + pn a (h0 + c)) (R.2 22 (31 * e + pn a (h0 + c))))
theorem tlR_f (R : SR) (m e a h0 : Nat) : ∀ c, (tlR R m e a h0 c).1 = R.1 ∧ ∀ f, f ≠ 33 → (tlR R m e a h0 c).2 f = R.2 f
  | 0 => ⟨rfl, fun _ _ => rfl⟩
  | c + 1 => by
    have h := tlR_f R m e a h0 c
    unfold tlR
    split
    · exact h
    · exact ⟨h.1, fun f hf => by simp only [ra, if_neg hf]; exact h.2 f hf⟩
set_option maxRecDepth 100000 in
set_option maxHeartbeats 4000000 in
theorem r_tell (l : Launch) (d : gh_D) (g : gh_H) {y : Nat → Nat} {R : SR} (hR : rR g y R) (m e a D u : Nat) (hm : m < 16) (he : e < 60) (ha : a < 16) (hD : R.2 13 e = nI D) (hD4 : D ≤ 4) (hL : R.2 28 m = nI a) (hu : u < 31) (huD : hgt u ≤ D + 1) : gh_C l d mR_tell (rr 1 0 0) [.ref (y 0), .int (nI m), .int (nI e), .int (nI u)] g (fun v g1 => v = none ∧ rQ g g1 y (tlR R m e a (hgt u) (D + 1 - hgt u))) := by
  refine gh_of [some (.ref (y 0)), some (.int (nI m)), some (.int (nI e)), some (.int (nI u)), none, none] (by decide) rfl (Nat.le_of_ble_eq_true rfl) (by simp [Value.category]) (fun z C hQ => ?_)
  show gh_W l d z 0 [some (.ref (y 0)), some (.int (nI m)), some (.int (nI e)), some (.int (nI u)), none, none] [] g 0 0
  have h0 := rQ.rf hR
  have loop : ∀ (c k : Nat) (g1 : gh_H) (y5 : Option Value), k + c = D + 1 - hgt u → rQ g g1 y (tlR R m e a (hgt u) k) → gh_W l d z 6 [some (.ref (y 0)), some (.int (nI m)), some (.int (nI e)), some (.int (nI u)), some (.int (nI (hgt u + k))), y5] [] g1 0 0 := by
    intro c
    induction c with
    | zero =>
      intro k g1 y5 hi h1
      have hi : k = D + 1 - hgt u := by omega
      have sT := tlR_f R m e a (hgt u) k
      obtain ⟨T, eT⟩ : ∃ T, T = tlR R m e a (hgt u) k := ⟨_, rfl⟩
      rw [← eT] at h1 sT
      refine gh_iload C dR_tell_6 rfl ?_
      refine gh_aload_n C dR_tell_8 rfl ?_
      refine rw_get C h1 fR_38 rfl dR_tell_9 ?_
      refine gh_iload_n C dR_tell_12 rfl ?_
      refine rw_ild C h1 13 60 ⟨rfl, rfl, rfl, by decide⟩ (e) rfl (by omega) dR_tell_13 ?_
      refine gh_ti (nI D) (by rw [sT.2 13 (by decide)]; exact hD) ?_
      refine gh_icmp_gt C 75 dR_tell_14 (by decide) (fun c14 => ?_) (fun c14 => ?_)
      ·
        refine gh_vret C hQ rfl dR_tell_75 ?_
        exact ⟨rfl, by rw [← hi, ← eT]; exact h1⟩
      · exact absurd (show nI D < nI (hgt u + k) from nI_lt (by omega) (by omega)) c14
    | succ c ih =>
      intro k g1 y5 hi h1
      have sT := tlR_f R m e a (hgt u) k
      have hv := pn_lt (hgt u + k) (by omega) a ha
      have eN : tlR R m e a (hgt u) (k + 1) = if R.2 16 e &&& bitN (pn a (hgt u + k)) = 0 then tlR R m e a (hgt u) k else ra (tlR R m e a (hgt u) k) 33 (upd ((tlR R m e a (hgt u) k).2 33) (31 * m + pn a (hgt u + k)) (R.2 22 (31 * e + pn a (hgt u + k)))) := rfl
      have inc : ∀ (g2 : gh_H) (y5 : Option Value), rQ g g2 y (tlR R m e a (hgt u) (k + 1)) → gh_W l d z 69 [some (.ref (y 0)), some (.int (nI m)), some (.int (nI e)), some (.int (nI u)), some (.int (nI (hgt u + k))), y5] [] g2 0 0 := by
        intro g2 y5 h2
        refine gh_iinc C (nI (hgt u + k + 1)) [some (.ref (y 0)), some (.int (nI m)), some (.int (nI e)), some (.int (nI u)), some (.int (nI (hgt u + k + 1))), y5] dR_tell_69 rfl (gh_inc (hgt u + k)) rfl ?_
        refine gh_goto C 6 dR_tell_72 (by decide) ?_
        exact ih (k + 1) g2 _ (by omega) h2
      obtain ⟨T, eT⟩ : ∃ T, T = tlR R m e a (hgt u) k := ⟨_, rfl⟩
      rw [← eT] at h1 sT eN
      refine gh_iload C dR_tell_6 rfl ?_
      refine gh_aload_n C dR_tell_8 rfl ?_
      refine rw_get C h1 fR_38 rfl dR_tell_9 ?_
      refine gh_iload_n C dR_tell_12 rfl ?_
      refine rw_ild C h1 13 60 ⟨rfl, rfl, rfl, by decide⟩ (e) rfl (by omega) dR_tell_13 ?_
      refine gh_ti (nI D) (by rw [sT.2 13 (by decide)]; exact hD) ?_
      refine gh_icmp_gt C 75 dR_tell_14 (by decide) (fun c14 => ?_) (fun c14 => ?_)
      · exact absurd (show nI D < nI (hgt u + k) from c14) (nI_nlt (by omega) (by omega))
      ·
        refine gh_aload_n C dR_tell_17 rfl ?_
        refine rw_get C h1 fR_83 rfl dR_tell_18 ?_
        refine gh_iload_n C dR_tell_21 rfl ?_
        refine rw_ild C h1 28 16 ⟨rfl, rfl, rfl, by decide⟩ (m) rfl (by omega) dR_tell_22 ?_
        refine gh_ti (nI a) (by rw [sT.2 28 (by decide)]; exact hL) ?_
        refine gh_iload C dR_tell_23 rfl ?_
        refine gh_callS C [.int (nI a), .int (nI (hgt u + k))] (r_above l d _ a (hgt u + k) ha (by omega)) lR_168 wR_above sR_above rfl rfl (Nat.le_of_ble_eq_true rfl) ⟨Nat.le_of_ble_eq_true rfl, Nat.le_of_ble_eq_true rfl⟩ (Nat.le_of_ble_eq_true rfl) (Nat.le_of_ble_eq_true rfl) dR_tell_25 (fun v101 g101 k101 => ?_)
        obtain ⟨rfl, e101⟩ := k101
        subst g101
        refine gh_istore C [some (.ref (y 0)), some (.int (nI m)), some (.int (nI e)), some (.int (nI u)), some (.int (nI (hgt u + k))), some (.int (nI (pn a (hgt u + k))))] dR_tell_28 rfl (Nat.le_of_ble_eq_true rfl) ?_
        refine gh_aload_n C dR_tell_30 rfl ?_
        refine rw_get C h1 fR_47 rfl dR_tell_31 ?_
        refine gh_iload_n C dR_tell_34 rfl ?_
        refine rw_ild C h1 16 60 ⟨rfl, rfl, rfl, by decide⟩ (e) rfl (by omega) dR_tell_35 ?_
        refine gh_ti (R.2 16 e) (by rw [sT.2 16 (by decide)]) ?_
        refine gh_iload C dR_tell_36 rfl ?_
        refine gh_ishr C dR_tell_38 ?_
        refine gh_iconst C 1 dR_tell_39 (by decide) ?_
        refine gh_iand C dR_tell_40 ?_
        refine gh_iconst C 1 dR_tell_41 (by decide) ?_
        refine gh_icmp_ne C 69 dR_tell_42 (by decide) (fun c42 => ?_) (fun c42 => ?_)
        · exact inc _ _ (by rw [eN, if_pos (by
            by_cases h9 : R.2 16 e &&& bitN (pn a (hgt u + k)) = 0
            · exact h9
            · exact absurd ((bt1 hv).mpr h9) c42)]; exact h1)
        ·
          refine gh_aload_n C dR_tell_45 rfl ?_
          refine rw_get C h1 fR_98 rfl dR_tell_46 ?_
          refine gh_bipush C 31 dR_tell_49 (by decide) ?_
          refine gh_iload_n C dR_tell_51 rfl ?_
          refine gh_imul C dR_tell_52 ?_
          refine gh_ti (nI (31 * m)) (pk_mul 31 m) ?_
          refine gh_iload C dR_tell_53 rfl ?_
          refine gh_iadd C dR_tell_55 ?_
          refine gh_ti (nI (31 * m + pn a (hgt u + k))) (nI_add (31 * m) (pn a (hgt u + k))) ?_
          refine gh_aload_n C dR_tell_56 rfl ?_
          refine rw_get C h1 fR_65 rfl dR_tell_57 ?_
          refine gh_bipush C 31 dR_tell_60 (by decide) ?_
          refine gh_iload_n C dR_tell_62 rfl ?_
          refine gh_imul C dR_tell_63 ?_
          refine gh_ti (nI (31 * e)) (pk_mul 31 e) ?_
          refine gh_iload C dR_tell_64 rfl ?_
          refine gh_iadd C dR_tell_66 ?_
          refine gh_ti (nI (31 * e + pn a (hgt u + k))) (nI_add (31 * e) (pn a (hgt u + k))) ?_
          refine rw_ild C h1 22 1860 ⟨rfl, rfl, rfl, by decide⟩ (31 * e + pn a (hgt u + k)) rfl (by omega) dR_tell_67 ?_
          refine gh_ti (R.2 22 (31 * e + pn a (hgt u + k))) (by rw [sT.2 22 (by decide)]) ?_
          refine rw_ist C h1 33 496 ⟨rfl, rfl, rfl, by decide⟩ (31 * m + pn a (hgt u + k)) rfl (by omega) dR_tell_68 (fun g102 h102 => ?_)
          have h102 : rQ g g102 y (ra T 33 (upd (T.2 33) (31 * m + pn a (hgt u + k)) (R.2 22 (31 * e + pn a (hgt u + k))))) := h102
          exact inc _ _ (by rw [eN, if_neg ((bt1 hv).mp c42)]; exact h102)
  refine gh_iload_n C dR_tell_0 rfl ?_
  refine gh_callS C [.int (nI u)] (r_height l d _ u hu) lR_179 wR_height sR_height rfl rfl (Nat.le_of_ble_eq_true rfl) ⟨Nat.le_of_ble_eq_true rfl, Nat.le_of_ble_eq_true rfl⟩ (Nat.le_of_ble_eq_true rfl) (Nat.le_of_ble_eq_true rfl) dR_tell_1 (fun v101 g101 k101 => ?_)
  obtain ⟨rfl, e101⟩ := k101
  subst g101
  refine gh_istore C [some (.ref (y 0)), some (.int (nI m)), some (.int (nI e)), some (.int (nI u)), some (.int (nI (hgt u))), none] dR_tell_4 rfl (Nat.le_of_ble_eq_true rfl) ?_
  exact loop (D + 1 - hgt u) 0 g _ (by omega) h0
abbrev mine (a D v : Nat) : Prop := v < tW D ∧ 0 < hgt v ∧ pn a (hgt v) = v
def kpF (m a D n : Nat) (K F : Nat → Int32) : Nat → Int32 := fun i => if (31 * m ≤ i ∧ i < 31 * m + n) ∧ ¬ (mine a D (i - 31 * m) ∧ K (i - 31 * m) = F i) then -1 else F i
theorem kpF_0 (m a D : Nat) (K F : Nat → Int32) : kpF m a D 0 K F = F := by
  funext i
  simp only [kpF]
  rw [if_neg (by omega)]
theorem kpF_n (m a D n : Nat) (K F : Nat → Int32) : kpF m a D n K F (31 * m + n) = F (31 * m + n) := by
  simp only [kpF]
  rw [if_neg (by omega)]
theorem kpF_s1 (m a D n : Nat) (K F : Nat → Int32) (h : ¬ (mine a D n ∧ K n = F (31 * m + n))) : upd (kpF m a D n K F) (31 * m + n) (-1) = kpF m a D (n + 1) K F := by
  funext i
  simp only [upd]
  by_cases e : i = 31 * m + n
  · subst e
    rw [if_pos rfl]
    simp only [kpF]
    rw [if_pos ⟨by omega, by rw [show 31 * m + n - 31 * m = n by omega]; exact h⟩]
  · rw [if_neg e]
    simp only [kpF]
    by_cases h2 : 31 * m ≤ i ∧ i < 31 * m + n
    · have h3 : 31 * m ≤ i ∧ i < 31 * m + (n + 1) := by omega
      simp only [h2, h3, and_self, true_and]
    · have h3 : ¬ (31 * m ≤ i ∧ i < 31 * m + (n + 1)) := by omega
      rw [if_neg (fun h => h2 h.1), if_neg (fun h => h3 h.1)]
theorem kpF_s0 (m a D n : Nat) (K F : Nat → Int32) (h : mine a D n ∧ K n = F (31 * m + n)) : kpF m a D (n + 1) K F = kpF m a D n K F := by
  funext i
  simp only [kpF]
  by_cases e : i = 31 * m + n
  · subst e
    rw [if_neg (fun h9 => h9.2 (by rw [show 31 * m + n - 31 * m = n by omega]; exact h)), if_neg (fun h9 => absurd h9.1 (by omega))]
  · by_cases h2 : 31 * m ≤ i ∧ i < 31 * m + n
    · have h3 : 31 * m ≤ i ∧ i < 31 * m + (n + 1) := by omega
      simp only [h2, h3, and_self, true_and]
    · have h3 : ¬ (31 * m ≤ i ∧ i < 31 * m + (n + 1)) := by omega
      rw [if_neg (fun h => h3 h.1), if_neg (fun h => h2 h.1)]
def kpR (R : SR) (m e a D n : Nat) : SR := ra R 33 (kpF m a D n (fun v => R.2 22 (31 * e + v)) (R.2 33))
theorem ra_ra (R : SR) (f : Nat) (F H : Nat → Int32) : ra (ra R f F) f H = ra R f H := by
  refine Prod.ext rfl ?_
  funext a
  by_cases ha : a = f
  · simp [ra, ha]
  · simp [ra, ha]
theorem ra_self (R : SR) (f : Nat) : ra R f (R.2 f) = R := by
  refine Prod.ext rfl ?_
  funext a
  by_cases ha : a = f
  · subst ha; simp [ra]
  · simp [ra, ha]
set_option maxRecDepth 100000 in
set_option maxHeartbeats 4000000 in
theorem r_keep (l : Launch) (d : gh_D) (g : gh_H) {y : Nat → Nat} {R : SR} (hR : rR g y R) (m e a D : Nat) (hm : m < 16) (he : e < 60) (ha : a < 16) (hD : R.2 13 e = nI D) (hD4 : D ≤ 4) (hL : R.2 28 m = nI a) : gh_C l d mR_keep (rr 1 0 0) [.ref (y 0), .int (nI m), .int (nI e)] g (fun v g1 => v = none ∧ rQ g g1 y (kpR R m e a D 31)) := by
  refine gh_of [some (.ref (y 0)), some (.int (nI m)), some (.int (nI e)), none, none, none] (by decide) rfl (Nat.le_of_ble_eq_true rfl) (by simp [Value.category]) (fun z C hQ => ?_)
  show gh_W l d z 0 [some (.ref (y 0)), some (.int (nI m)), some (.int (nI e)), none, none, none] [] g 0 0
  have h0 := rQ.rf hR
  have loop : ∀ (c i : Nat) (g1 : gh_H) (y4 y5 : Option Value), i + c = 31 → rQ g g1 y (kpR R m e a D i) → gh_W l d z 2 [some (.ref (y 0)), some (.int (nI m)), some (.int (nI e)), some (.int (nI i)), y4, y5] [] g1 0 0 := by
    intro c
    induction c with
    | zero =>
      intro i g1 y4 y5 hi h1
      have hi : i = 31 := by omega
      subst hi
      refine gh_iload_n C dR_keep_2 rfl ?_
      refine gh_bipush C 31 dR_keep_3 (by decide) ?_
      refine gh_icmp_ge C 96 dR_keep_5 (by decide) (fun c5 => ?_) (fun c5 => ?_)
      ·
        refine gh_vret C hQ rfl dR_keep_96 ?_
        exact ⟨rfl, h1⟩
      · exact absurd (show (31 : Int32) ≤ nI 31 from nI_le (Nat.le_refl 31) (by decide)) c5
    | succ c ih =>
      intro i g1 y4 y5 hi h1
      have hi31 : i < 31 := by omega
      have hw31 := tW_le hD4
      have hg4 := (hgt_le i hi31).1
      have hgp := pn_lt (hgt i) hg4 a ha
      have inc : ∀ (g2 : gh_H) (y4 y5 : Option Value), rQ g g2 y (kpR R m e a D (i + 1)) → gh_W l d z 90 [some (.ref (y 0)), some (.int (nI m)), some (.int (nI e)), some (.int (nI i)), y4, y5] [] g2 0 0 := by
        intro g2 y4 y5 h2
        refine gh_iinc C (nI (i + 1)) [some (.ref (y 0)), some (.int (nI m)), some (.int (nI e)), some (.int (nI (i + 1))), y4, y5] dR_keep_90 rfl (gh_inc i) rfl ?_
        refine gh_goto C 2 dR_keep_93 (by decide) ?_
        exact ih (i + 1) g2 _ _ (by omega) h2
      have s1 : ¬ (mine a D i ∧ R.2 22 (31 * e + i) = R.2 33 (31 * m + i)) → ra (kpR R m e a D i) 33 (upd (kpF m a D i (fun v => R.2 22 (31 * e + v)) (R.2 33)) (31 * m + i) (-1)) = kpR R m e a D (i + 1) := fun h => by
        unfold kpR
        rw [ra_ra, kpF_s1 m a D i (fun v => R.2 22 (31 * e + v)) (R.2 33) h]
      have drop : ∀ (y5 : Option Value), ¬ (mine a D i ∧ R.2 22 (31 * e + i) = R.2 33 (31 * m + i)) → gh_W l d z 82 [some (.ref (y 0)), some (.int (nI m)), some (.int (nI e)), some (.int (nI i)), some (.int (nI (31 * m + i))), y5] [] g1 0 0 := by
        intro y5 hn
        refine gh_aload_n C dR_keep_82 rfl ?_
        refine rw_get C h1 fR_98 rfl dR_keep_83 ?_
        refine gh_iload C dR_keep_86 rfl ?_
        refine gh_iconst C (-1) dR_keep_88 (by decide) ?_
        refine rw_ist C h1 33 496 ⟨rfl, rfl, rfl, by decide⟩ (31 * m + i) rfl (by omega) dR_keep_89 (fun g101 h101 => ?_)
        have h101 : rQ g g101 y (ra (kpR R m e a D i) 33 (upd ((kpR R m e a D i).2 33) (31 * m + i) (-1))) := h101
        exact inc _ _ _ (by rw [← s1 hn]; exact h101)
      refine gh_iload_n C dR_keep_2 rfl ?_
      refine gh_bipush C 31 dR_keep_3 (by decide) ?_
      refine gh_icmp_ge C 96 dR_keep_5 (by decide) (fun c5 => ?_) (fun c5 => ?_)
      · exact absurd c5 (show ¬ nI 31 ≤ nI i from nI_ge (by omega) (by decide))
      ·
        refine gh_bipush C 31 dR_keep_8 (by decide) ?_
        refine gh_iload_n C dR_keep_10 rfl ?_
        refine gh_imul C dR_keep_11 ?_
        refine gh_ti (nI (31 * m)) (pk_mul 31 m) ?_
        refine gh_iload_n C dR_keep_12 rfl ?_
        refine gh_iadd C dR_keep_13 ?_
        refine gh_ti (nI (31 * m + i)) (nI_add (31 * m) i) ?_
        refine gh_istore C [some (.ref (y 0)), some (.int (nI m)), some (.int (nI e)), some (.int (nI i)), some (.int (nI (31 * m + i))), y5] dR_keep_14 rfl (Nat.le_of_ble_eq_true rfl) ?_
        refine gh_iload_n C dR_keep_16 rfl ?_
        refine gh_aload_n C dR_keep_17 rfl ?_
        refine gh_iload_n C dR_keep_18 rfl ?_
        refine gh_callV C [.int (nI e)] (r_width l d _ h1.1 e D he hD hD4) lR_192 wR_width vR_width h1.1.1 rfl rfl rfl (Nat.le_of_ble_eq_true rfl) ⟨Nat.le_of_ble_eq_true rfl, Nat.le_of_ble_eq_true rfl⟩ (Nat.le_of_ble_eq_true rfl) (Nat.le_of_ble_eq_true rfl) dR_keep_19 (fun v101 g101 k101 => ?_)
        obtain ⟨rfl, e101⟩ := k101
        subst g101
        refine gh_icmp_ge C 53 dR_keep_22 (by decide) (fun c22 => ?_) (fun c22 => ?_)
        ·
          have hn : ¬ mine a D i := fun h => absurd c22 (nI_ge h.1 (by omega))
          refine gh_iconst C 0 dR_keep_53 (by decide) ?_
          refine gh_istore C [some (.ref (y 0)), some (.int (nI m)), some (.int (nI e)), some (.int (nI i)), some (.int (nI (31 * m + i))), some (.int 0)] dR_keep_54 rfl (Nat.le_of_ble_eq_true rfl) ?_
          refine gh_iload C dR_keep_56 rfl ?_
          refine gh_if_eq C 82 dR_keep_58 (by decide) (fun c58 => ?_) (fun c58 => ?_)
          ·
            exact drop _ (fun h => hn h.1)
          · exact absurd (by decide) c58
        ·
          refine gh_iload_n C dR_keep_25 rfl ?_
          refine gh_callS C [.int (nI i)] (r_height l d _ i hi31) lR_179 wR_height sR_height rfl rfl (Nat.le_of_ble_eq_true rfl) ⟨Nat.le_of_ble_eq_true rfl, Nat.le_of_ble_eq_true rfl⟩ (Nat.le_of_ble_eq_true rfl) (Nat.le_of_ble_eq_true rfl) dR_keep_26 (fun v102 g102 k102 => ?_)
          obtain ⟨rfl, e102⟩ := k102
          subst g102
          refine gh_if_le C 53 dR_keep_29 (by decide) (fun c29 => ?_) (fun c29 => ?_)
          ·
            have hn : ¬ mine a D i := fun h => absurd (show nI (hgt i) ≤ nI 0 from c29) (nI_ge (show 0 < hgt i from h.2.1) (by omega))
            refine gh_iconst C 0 dR_keep_53 (by decide) ?_
            refine gh_istore C [some (.ref (y 0)), some (.int (nI m)), some (.int (nI e)), some (.int (nI i)), some (.int (nI (31 * m + i))), some (.int 0)] dR_keep_54 rfl (Nat.le_of_ble_eq_true rfl) ?_
            refine gh_iload C dR_keep_56 rfl ?_
            refine gh_if_eq C 82 dR_keep_58 (by decide) (fun c58 => ?_) (fun c58 => ?_)
            ·
              exact drop _ (fun h => hn h.1)
            · exact absurd (by decide) c58
          ·
            refine gh_aload_n C dR_keep_32 rfl ?_
            refine rw_get C h1 fR_83 rfl dR_keep_33 ?_
            refine gh_iload_n C dR_keep_36 rfl ?_
            refine rw_ild C h1 28 16 ⟨rfl, rfl, rfl, by decide⟩ (m) rfl (by omega) dR_keep_37 ?_
            refine gh_ti (nI a) hL ?_
            refine gh_iload_n C dR_keep_38 rfl ?_
            refine gh_callS C [.int (nI i)] (r_height l d _ i hi31) lR_179 wR_height sR_height rfl rfl (Nat.le_of_ble_eq_true rfl) ⟨Nat.le_of_ble_eq_true rfl, Nat.le_of_ble_eq_true rfl⟩ (Nat.le_of_ble_eq_true rfl) (Nat.le_of_ble_eq_true rfl) dR_keep_39 (fun v103 g103 k103 => ?_)
            obtain ⟨rfl, e103⟩ := k103
            subst g103
            refine gh_callS C [.int (nI a), .int (nI (hgt i))] (r_above l d _ a (hgt i) ha hg4) lR_168 wR_above sR_above rfl rfl (Nat.le_of_ble_eq_true rfl) ⟨Nat.le_of_ble_eq_true rfl, Nat.le_of_ble_eq_true rfl⟩ (Nat.le_of_ble_eq_true rfl) (Nat.le_of_ble_eq_true rfl) dR_keep_42 (fun v104 g104 k104 => ?_)
            obtain ⟨rfl, e104⟩ := k104
            subst g104
            refine gh_iload_n C dR_keep_45 rfl ?_
            refine gh_icmp_ne C 53 dR_keep_46 (by decide) (fun c46 => ?_) (fun c46 => ?_)
            ·
              have hn : ¬ mine a D i := fun h => c46 (by rw [h.2.2])
              refine gh_iconst C 0 dR_keep_53 (by decide) ?_
              refine gh_istore C [some (.ref (y 0)), some (.int (nI m)), some (.int (nI e)), some (.int (nI i)), some (.int (nI (31 * m + i))), some (.int 0)] dR_keep_54 rfl (Nat.le_of_ble_eq_true rfl) ?_
              refine gh_iload C dR_keep_56 rfl ?_
              refine gh_if_eq C 82 dR_keep_58 (by decide) (fun c58 => ?_) (fun c58 => ?_)
              ·
                exact drop _ (fun h => hn h.1)
              · exact absurd (by decide) c58
            ·
              have hy : mine a D i := by
                refine ⟨?_, ?_, (nI_eq (by omega) (by omega)).mp c46⟩
                · rcases Nat.lt_or_ge i (tW D) with h | h
                  · exact h
                  · exact absurd (nI_le h (by omega)) c22
                · rcases Nat.eq_zero_or_pos (hgt i) with h | h
                  · exact absurd (show nI (hgt i) ≤ 0 by rw [h]; decide) c29
                  · exact h
              refine gh_iconst C 1 dR_keep_49 (by decide) ?_
              refine gh_goto C 54 dR_keep_50 (by decide) ?_
              refine gh_istore C [some (.ref (y 0)), some (.int (nI m)), some (.int (nI e)), some (.int (nI i)), some (.int (nI (31 * m + i))), some (.int 1)] dR_keep_54 rfl (Nat.le_of_ble_eq_true rfl) ?_
              refine gh_iload C dR_keep_56 rfl ?_
              refine gh_if_eq C 82 dR_keep_58 (by decide) (fun c58 => ?_) (fun c58 => ?_)
              · exact absurd c58 (by decide)
              ·
                refine gh_aload_n C dR_keep_61 rfl ?_
                refine rw_get C h1 fR_65 rfl dR_keep_62 ?_
                refine gh_bipush C 31 dR_keep_65 (by decide) ?_
                refine gh_iload_n C dR_keep_67 rfl ?_
                refine gh_imul C dR_keep_68 ?_
                refine gh_ti (nI (31 * e)) (pk_mul 31 e) ?_
                refine gh_iload_n C dR_keep_69 rfl ?_
                refine gh_iadd C dR_keep_70 ?_
                refine gh_ti (nI (31 * e + i)) (nI_add (31 * e) i) ?_
                refine rw_ild C h1 22 1860 ⟨rfl, rfl, rfl, by decide⟩ (31 * e + i) rfl (by omega) dR_keep_71 ?_
                refine gh_ti (R.2 22 (31 * e + i)) rfl ?_
                refine gh_aload_n C dR_keep_72 rfl ?_
                refine rw_get C h1 fR_98 rfl dR_keep_73 ?_
                refine gh_iload C dR_keep_76 rfl ?_
                refine rw_ild C h1 33 496 ⟨rfl, rfl, rfl, by decide⟩ (31 * m + i) rfl (by omega) dR_keep_78 ?_
                refine gh_ti (R.2 33 (31 * m + i)) (kpF_n m a D i (fun v => R.2 22 (31 * e + v)) (R.2 33)) ?_
                refine gh_icmp_eq C 90 dR_keep_79 (by decide) (fun c79 => ?_) (fun c79 => ?_)
                · exact inc _ _ _ (by rw [show kpR R m e a D (i + 1) = kpR R m e a D i by unfold kpR; rw [kpF_s0 m a D i (fun v => R.2 22 (31 * e + v)) (R.2 33) ⟨hy, c79⟩]]; exact h1)
                · exact drop _ (fun h => c79 h.2)
  refine gh_iconst C 0 dR_keep_0 (by decide) ?_
  refine gh_istore_n C [some (.ref (y 0)), some (.int (nI m)), some (.int (nI e)), some (.int 0), none, none] dR_keep_1 rfl (Nat.le_of_ble_eq_true rfl) ?_
  exact loop 31 0 g _ _ (by omega) (by unfold kpR; rw [kpF_0, ra_self]; exact h0)
