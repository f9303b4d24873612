/-! welcome, change, commit -/
def wc2 (A : SR) (e D p a : Nat) : SR := if A.2 21 e = 0 then A else match lowc D (A.2 16 e) a with
  | none => A
  | some h => enR A (A.2 37 p) (A.2 25 (31 * e + pn a (h + 1))) (-1)
def wc1 (T : SR) (e D : Nat) (j : Int32) (p : Nat) : SR := if T.2 39 p = nI e then wc2 (enR T (T.2 37 p) j (-1)) e D p (T.2 40 p).toNatClampNeg else T
def wcR (T : SR) (e D : Nat) (j : Int32) : Nat → SR
  | 0 => T
  | p + 1 => wc1 (wcR T e D j p) e D j p
theorem en_f (T : SR) (a b c : Int32) : (∀ f, f ≠ 7 → (enR T a b c).1 f = T.1 f) ∧ (∀ f, f ≠ 8 → f ≠ 9 → f ≠ 10 → f ≠ 11 → f ≠ 20 → (enR T a b c).2 f = T.2 f) ∧ (enR T a b c).1 7 = T.1 7 + 1 :=
  ⟨fun f h1 => by simp [enR, ra, ri, h1], fun f h1 h2 h3 h4 h5 => by simp [enR, ra, ri, h1, h2, h3, h4, h5], by simp [enR, ra, ri]⟩
theorem wc2_f (A : SR) (e D p a : Nat) : (∀ f, f ≠ 7 → (wc2 A e D p a).1 f = A.1 f) ∧ (∀ f, f ≠ 8 → f ≠ 9 → f ≠ 10 → f ≠ 11 → f ≠ 20 → (wc2 A e D p a).2 f = A.2 f) ∧ (wc2 A e D p a).1 7 ≤ A.1 7 + 1 := by
  unfold wc2
  by_cases h : A.2 21 e = 0
  · rw [if_pos h]; exact ⟨fun _ _ => rfl, fun _ _ _ _ _ _ => rfl, Nat.le_succ _⟩
  · rw [if_neg h]
    cases lowc D (A.2 16 e) a with
    | none => exact ⟨fun _ _ => rfl, fun _ _ _ _ _ _ => rfl, Nat.le_succ _⟩
    | some h =>
      have := en_f A (A.2 37 p) (A.2 25 (31 * e + pn a (h + 1))) (-1)
      exact ⟨this.1, this.2.1, Nat.le_of_eq this.2.2⟩
theorem wc1_f (T : SR) (e D : Nat) (j : Int32) (p : Nat) : (∀ f, f ≠ 7 → (wc1 T e D j p).1 f = T.1 f) ∧ (∀ f, f ≠ 8 → f ≠ 9 → f ≠ 10 → f ≠ 11 → f ≠ 20 → (wc1 T e D j p).2 f = T.2 f) ∧ (wc1 T e D j p).1 7 ≤ T.1 7 + 2 := by
  unfold wc1
  by_cases h : T.2 39 p = nI e
  · rw [if_pos h]
    have h1 := en_f T (T.2 37 p) j (-1)
    have h2 := wc2_f (enR T (T.2 37 p) j (-1)) e D p (T.2 40 p).toNatClampNeg
    exact ⟨fun f k => (h2.1 f k).trans (h1.1 f k), fun f k1 k2 k3 k4 k5 => (h2.2.1 f k1 k2 k3 k4 k5).trans (h1.2.1 f k1 k2 k3 k4 k5), by have := h2.2.2; have := h1.2.2; omega⟩
  · rw [if_neg h]; exact ⟨fun _ _ => rfl, fun _ _ _ _ _ _ => rfl, by omega⟩
theorem wcR_f (T : SR) (e D : Nat) (j : Int32) (n : Nat) : (∀ f, f ≠ 7 → (wcR T e D j n).1 f = T.1 f) ∧ (∀ f, f ≠ 8 → f ≠ 9 → f ≠ 10 → f ≠ 11 → f ≠ 20 → (wcR T e D j n).2 f = T.2 f) ∧ (wcR T e D j n).1 7 ≤ T.1 7 + 2 * n := by
  induction n with
  | zero => exact ⟨fun _ _ => rfl, fun _ _ _ _ _ _ => rfl, Nat.le_refl _⟩
  | succ n ih =>
    have h1 := wc1_f (wcR T e D j n) e D j n
    exact ⟨fun f k => (h1.1 f k).trans (ih.1 f k), fun f k1 k2 k3 k4 k5 => (h1.2.1 f k1 k2 k3 k4 k5).trans (ih.2.1 f k1 k2 k3 k4 k5), by have := h1.2.2; have := ih.2.2; show (wc1 (wcR T e D j n) e D j n).1 7 ≤ _; omega⟩
set_option maxRecDepth 100000 in
set_option maxHeartbeats 4000000 in
theorem r_welcome (l : Launch) (d : gh_D) (g : gh_H) {y : Nat → Nat} {R : SR} (hR : rR g y R) (e D : Nat) (j : Int32) (he : e < 60) (hE : R.1 12 = e) (hD : R.2 13 e = nI D) (hD4 : D ≤ 4) (hP : R.1 35 ≤ 60) (h7 : R.1 7 + 2 * R.1 35 ≤ 3600) (hua : ∀ p, p < R.1 35 → R.2 39 p = nI e → ∃ a, a < 16 ∧ R.2 40 p = nI a) : gh_C l d mR_welcome (rr 2 0 0) [.ref (y 0), .int (nI e), .int j] g (fun v g1 => v = none ∧ rQ g g1 y (wcR R e D j (R.1 35))) := by
  refine gh_of [some (.ref (y 0)), some (.int (nI e)), some (.int j), none, none] (by decide) rfl (Nat.le_of_ble_eq_true rfl) (by simp [Value.category]) (fun z C hQ => ?_)
  show gh_W l d z 0 [some (.ref (y 0)), some (.int (nI e)), some (.int j), none, none] [] g 0 0
  have h0 := rQ.rf hR
  have loop : ∀ (c p : Nat) (x4 : Option Value) (g1 : gh_H), p + c = R.1 35 → rQ g g1 y (wcR R e D j p) → gh_W l d z 2 [some (.ref (y 0)), some (.int (nI e)), some (.int j), some (.int (nI p)), x4] [] g1 0 0 := by
    intro c
    induction c with
    | zero =>
      intro p x4 g1 hp h1
      have hp : p = R.1 35 := by omega
      subst hp
      have hf := wcR_f R e D j (R.1 35)
      obtain ⟨T, eT⟩ : ∃ T, T = wcR R e D j (R.1 35) := ⟨_, rfl⟩
      rw [← eT] at h1 hf
      have h35 : nI (T.1 35) = nI (R.1 35) := by rw [hf.1 35 (by decide)]
      refine gh_iload_n C dR_welcome_2 rfl ?_
      refine gh_aload_n C dR_welcome_3 rfl ?_
      refine rw_get C h1 fR_189 rfl dR_welcome_4 ?_
      refine gh_ti (nI (R.1 35)) h35 ?_
      refine gh_icmp_ge C 96 dR_welcome_7 (by decide) (fun c7 => ?_) (fun c7 => ?_)
      ·
        refine gh_vret C hQ rfl dR_welcome_96 ?_
        exact ⟨rfl, by rw [← eT]; exact h1⟩
      · exact absurd (nI_le (Nat.le_refl (R.1 35)) (by omega)) c7
    | succ c ih =>
      intro p x4 g1 hp h1
      have hlt : p < R.1 35 := by omega
      have hf := wcR_f R e D j p
      have inc : ∀ (x4 : Option Value) (g2 : gh_H), rQ g g2 y (wcR R e D j (p + 1)) → gh_W l d z 90 [some (.ref (y 0)), some (.int (nI e)), some (.int j), some (.int (nI p)), x4] [] g2 0 0 := by
        intro x4 g2 h2
        refine gh_iinc C (nI (p + 1)) [some (.ref (y 0)), some (.int (nI e)), some (.int j), some (.int (nI (p + 1))), x4] dR_welcome_90 rfl (gh_inc p) rfl ?_
        refine gh_goto C 2 dR_welcome_93 (by decide) ?_
        exact ih (p + 1) _ g2 (by omega) h2
      obtain ⟨T, eT⟩ : ∃ T, T = wcR R e D j p := ⟨_, rfl⟩
      have hs : wcR R e D j (p + 1) = wc1 T e D j p := by rw [eT]; rfl
      rw [hs] at inc
      rw [← eT] at h1 hf
      unfold wc1 at inc
      have h35 : nI (T.1 35) = nI (R.1 35) := by rw [hf.1 35 (by decide)]
      have f39 : T.2 39 = R.2 39 := hf.2.1 39 (by decide) (by decide) (by decide) (by decide) (by decide)
      have f40 : T.2 40 = R.2 40 := hf.2.1 40 (by decide) (by decide) (by decide) (by decide) (by decide)
      have f13 : T.2 13 = R.2 13 := hf.2.1 13 (by decide) (by decide) (by decide) (by decide) (by decide)
      have f12 : T.1 12 = e := (hf.1 12 (by decide)).trans hE
      have hbl := hf.2.2
      have aft : T.2 39 p = nI e → ∀ (a : Nat) (x4 : Option Value) (g2 : gh_H) (A : SR), A = enR T (T.2 37 p) j (-1) → a < 16 → R.2 40 p = nI a → rQ g g2 y A → gh_W l d z 35 [some (.ref (y 0)), some (.int (nI e)), some (.int j), some (.int (nI p)), x4] [] g2 0 0 := by
        intro hu a x4 g2 A eA ha h40 h2
        have hA := en_f T (T.2 37 p) j (-1)
        rw [← eA] at hA
        have hca : (T.2 40 p).toNatClampNeg = a := by rw [f40, h40]; exact nI_clamp (by omega)
        rw [if_pos hu, hca, ← eA] at inc
        have A40 : A.2 40 p = nI a := by rw [hA.2.1 40 (by decide) (by decide) (by decide) (by decide) (by decide), f40]; exact h40
        have A13 : A.2 13 e = nI D := by rw [hA.2.1 13 (by decide) (by decide) (by decide) (by decide) (by decide), f13]; exact hD
        have A7 : A.1 7 < 3600 := by have := hA.2.2; omega
        have A12 : A.1 12 < 60 := by rw [hA.1 12 (by decide), f12]; exact he
        unfold wc2 at inc
        have n61 : (∀ (x4 : Option Value) (g2 : gh_H), rQ g g2 y A → gh_W l d z 90 [some (.ref (y 0)), some (.int (nI e)), some (.int j), some (.int (nI p)), x4] [] g2 0 0) → ∀ g2, rQ g g2 y A → gh_W l d z 61 [some (.ref (y 0)), some (.int (nI e)), some (.int j), some (.int (nI p)), some (.int (-1))] [] g2 0 0 := by
          intro ik g2 h2
          refine gh_iload C dR_welcome_61 rfl ?_
          refine gh_iconst C (-1) dR_welcome_63 (by decide) ?_
          refine gh_icmp_eq C 90 dR_welcome_64 (by decide) (fun c64 => ?_) (fun c64 => absurd rfl c64)
          exact ik _ _ h2
        have s61 : ∀ h, h < D → (∀ (x4 : Option Value) (g2 : gh_H), rQ g g2 y (enR A (A.2 37 p) (A.2 25 (31 * e + pn a (h + 1))) (-1)) → gh_W l d z 90 [some (.ref (y 0)), some (.int (nI e)), some (.int j), some (.int (nI p)), x4] [] g2 0 0) → ∀ g2, rQ g g2 y A → gh_W l d z 61 [some (.ref (y 0)), some (.int (nI e)), some (.int j), some (.int (nI p)), some (.int (nI (pn a (h + 1))))] [] g2 0 0 := by
          intro h hhD ik g2 h2
          have hpn := pn_lt (h + 1) (show h + 1 ≤ 4 by omega) a ha
          refine gh_iload C dR_welcome_61 rfl ?_
          refine gh_iconst C (-1) dR_welcome_63 (by decide) ?_
          refine gh_icmp_eq C 90 dR_welcome_64 (by decide) (fun c64 => ?_) (fun c64 => ?_)
          · exact absurd c64 (nI_ne1 (by omega))
          ·
            refine gh_aload_n C dR_welcome_67 rfl ?_
            refine gh_aload_n C dR_welcome_68 rfl ?_
            refine rw_get C h2 fR_107 rfl dR_welcome_69 ?_
            refine gh_iload_n C dR_welcome_72 rfl ?_
            refine rw_ild C h2 37 60 ⟨rfl, rfl, rfl, by decide⟩ (p) rfl (by omega) dR_welcome_73 ?_
            refine gh_aload_n C dR_welcome_74 rfl ?_
            refine rw_get C h2 fR_74 rfl dR_welcome_75 ?_
            refine gh_bipush C 31 dR_welcome_78 (by decide) ?_
            refine gh_iload_n C dR_welcome_80 rfl ?_
            refine gh_imul C dR_welcome_81 ?_
            refine gh_ti (nI (31 * e)) (pk_mul 31 e) ?_
            refine gh_iload C dR_welcome_82 rfl ?_
            refine gh_iadd C dR_welcome_84 ?_
            refine gh_ti (nI (31 * e + pn a (h + 1))) (nI_add (31 * e) (pn a (h + 1))) ?_
            refine rw_ild C h2 25 1860 ⟨rfl, rfl, rfl, by decide⟩ (31 * e + pn a (h + 1)) rfl (by omega) dR_welcome_85 ?_
            refine gh_iconst C (-1) dR_welcome_86 (by decide) ?_
            refine gh_callV C [.int (A.2 37 p), .int (A.2 25 (31 * e + pn a (h + 1))), .int (-1)] (r_encrypt l d _ h2.1 (A.2 37 p) (A.2 25 (31 * e + pn a (h + 1))) (-1) A7 A12) lR_224 wR_encrypt vR_encrypt h2.1.1 rfl rfl rfl (Nat.le_of_ble_eq_true rfl) ⟨Nat.le_of_ble_eq_true rfl, Nat.le_of_ble_eq_true rfl⟩ (Nat.le_of_ble_eq_true rfl) (Nat.le_of_ble_eq_true rfl) dR_welcome_87 (fun v101 g101 k101 => ?_)
            obtain ⟨rfl, h101⟩ := k101
            replace h101 := h2.tr h101
            exact ik _ _ h101
        refine gh_aload_n C dR_welcome_35 rfl ?_
        refine rw_get C h2 fR_62 rfl dR_welcome_36 ?_
        refine gh_iload_n C dR_welcome_39 rfl ?_
        refine rw_zld C h2 21 60 ⟨rfl, rfl, rfl, by decide⟩ (e) rfl (by omega) dR_welcome_40 ?_
        refine gh_if_eq C 58 dR_welcome_41 (by decide) (fun c41 => ?_) (fun c41 => ?_)
        ·
          rw [if_pos c41] at inc
          refine gh_iconst C (-1) dR_welcome_58 (by decide) ?_
          refine gh_istore C [some (.ref (y 0)), some (.int (nI e)), some (.int j), some (.int (nI p)), some (.int (-1))] dR_welcome_59 rfl (Nat.le_of_ble_eq_true rfl) ?_
          exact n61 inc _ h2
        ·
          rw [if_neg c41] at inc
          refine gh_aload_n C dR_welcome_44 rfl ?_
          refine gh_iload_n C dR_welcome_45 rfl ?_
          refine gh_aload_n C dR_welcome_46 rfl ?_
          refine rw_get C h2 fR_116 rfl dR_welcome_47 ?_
          refine gh_iload_n C dR_welcome_50 rfl ?_
          refine rw_ild C h2 40 60 ⟨rfl, rfl, rfl, by decide⟩ (p) rfl (by omega) dR_welcome_51 ?_
          refine gh_ti (nI a) A40 ?_
          refine gh_callV C [.int (nI e), .int (nI a)] (r_meeting l d _ h2.1 e a D he ha A13 hD4) lR_227 wR_meeting vR_meeting h2.1.1 rfl rfl rfl (Nat.le_of_ble_eq_true rfl) ⟨Nat.le_of_ble_eq_true rfl, Nat.le_of_ble_eq_true rfl⟩ (Nat.le_of_ble_eq_true rfl) (Nat.le_of_ble_eq_true rfl) dR_welcome_52 (fun v101 g101 k101 => ?_)
          obtain ⟨rfl, e101⟩ := k101
          subst g101
          refine gh_goto C 59 dR_welcome_55 (by decide) ?_
          refine gh_istore C [some (.ref (y 0)), some (.int (nI e)), some (.int j), some (.int (nI p)), some (.int (oN a (lowc D (A.2 16 e) a)))] dR_welcome_59 rfl (Nat.le_of_ble_eq_true rfl) ?_
          obtain ⟨w, ew⟩ : ∃ w, w = lowc D (A.2 16 e) a := ⟨_, rfl⟩
          have hwl : ∀ h, w = some h → h < D := fun h hh => lowc_lt (by rw [← ew]; exact hh)
          rw [← ew] at inc ⊢
          cases w with
          | none => exact n61 inc _ h2
          | some h => exact s61 h (hwl h rfl) inc _ h2
      refine gh_iload_n C dR_welcome_2 rfl ?_
      refine gh_aload_n C dR_welcome_3 rfl ?_
      refine rw_get C h1 fR_189 rfl dR_welcome_4 ?_
      refine gh_ti (nI (R.1 35)) h35 ?_
      refine gh_icmp_ge C 96 dR_welcome_7 (by decide) (fun c7 => ?_) (fun c7 => ?_)
      · exact absurd c7 (nI_ge hlt (by omega))
      ·
        refine gh_aload_n C dR_welcome_10 rfl ?_
        refine rw_get C h1 fR_113 rfl dR_welcome_11 ?_
        refine gh_iload_n C dR_welcome_14 rfl ?_
        refine rw_ild C h1 39 60 ⟨rfl, rfl, rfl, by decide⟩ (p) rfl (by omega) dR_welcome_15 ?_
        refine gh_iload_n C dR_welcome_16 rfl ?_
        refine gh_icmp_eq C 23 dR_welcome_17 (by decide) (fun c17 => ?_) (fun c17 => ?_)
        ·
          obtain ⟨a, ha, h40⟩ := hua p hlt (by rw [← f39]; exact c17)
          refine gh_aload_n C dR_welcome_23 rfl ?_
          refine gh_aload_n C dR_welcome_24 rfl ?_
          refine rw_get C h1 fR_107 rfl dR_welcome_25 ?_
          refine gh_iload_n C dR_welcome_28 rfl ?_
          refine rw_ild C h1 37 60 ⟨rfl, rfl, rfl, by decide⟩ (p) rfl (by omega) dR_welcome_29 ?_
          refine gh_iload_n C dR_welcome_30 rfl ?_
          refine gh_iconst C (-1) dR_welcome_31 (by decide) ?_
          refine gh_callV C [.int (T.2 37 p), .int j, .int (-1)] (r_encrypt l d _ h1.1 (T.2 37 p) j (-1) (by omega) (by rw [f12]; exact he)) lR_224 wR_encrypt vR_encrypt h1.1.1 rfl rfl rfl (Nat.le_of_ble_eq_true rfl) ⟨Nat.le_of_ble_eq_true rfl, Nat.le_of_ble_eq_true rfl⟩ (Nat.le_of_ble_eq_true rfl) (Nat.le_of_ble_eq_true rfl) dR_welcome_32 (fun v101 g101 k101 => ?_)
          obtain ⟨rfl, h101⟩ := k101
          replace h101 := h1.tr h101
          exact aft c17 a _ _ _ rfl ha h40 h101
        · refine gh_goto C 90 dR_welcome_20 (by decide) ?_
          rw [if_neg c17] at inc
          exact inc _ _ h1
  refine gh_iconst C 0 dR_welcome_0 (by decide) ?_
  refine gh_istore_n C [some (.ref (y 0)), some (.int (nI e)), some (.int j), some (.int 0), none] dR_welcome_1 rfl (Nat.le_of_ble_eq_true rfl) ?_
  exact loop (R.1 35) 0 _ g (by omega) h0
