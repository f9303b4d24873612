/-! the ADDs -/
abbrev adQ (S : SC) (i : Nat) : Prop := S.2.1 17 i = 0 ∧ mba S (S.2.1 18 i).toNatClampNeg = true
def adL (S : SC) (e : Nat) : Nat → SC
  | 0 => S
  | i + 1 => if adQ (adL S e i) i then adS (adL S e i) e ((adL S e i).2.1 18 i).toNatClampNeg else adL S e i
def aq (S S1 : SC) : Prop := S1.1 0 = S.1 0 ∧ S1.1 1 = S.1 1 ∧ (∀ c, c ≠ 9 → c ≠ 14 → c ≠ 15 → c ≠ 20 → S1.2.1 c = S.2.1 c) ∧ ∀ c, c < 2 → S1.2.2 c = S.2.2 c
theorem aq_adD (S : SC) (e p a D1 : Nat) : aq S (adD S e p a D1) := ⟨by funext i; simp [adD, gvS, trS, dpS, st1, st2, stN], by funext i; simp [adD, gvS, trS, dpS, st1, st2, stN], fun c h1 h2 h3 h4 => by
  funext i
  simp [adD, gvS, trS, dpS, st1, st2, stN, h1, h2, h3, h4], fun c h => by
  funext i
  simp [adD, gvS, trS, dpS, st1, st2, stN, show c ≠ 2 by omega, show c ≠ 3 by omega, show c ≠ 4 by omega]⟩
theorem aq.rf {S : SC} : aq S S := ⟨rfl, rfl, fun _ _ _ _ _ => rfl, fun _ _ => rfl⟩
theorem aq_adS (S : SC) (e p : Nat) : aq S (adS S e p) := by
  unfold adS
  split
  · exact aq_adD _ _ _ _ _
  · split
    · exact aq_adD _ _ _ _ _
    · exact aq.rf
theorem aq_adL (S : SC) (e : Nat) : ∀ i, aq S (adL S e i)
  | 0 => aq.rf
  | i + 1 => by
    have h := aq_adL S e i
    unfold adL
    split
    · have h2 := aq_adS (adL S e i) e ((adL S e i).2.1 18 i).toNatClampNeg
      exact ⟨h2.1.trans h.1, h2.2.1.trans h.2.1, fun c h3 h4 h5 h6 => (h2.2.2.1 c h3 h4 h5 h6).trans (h.2.2.1 c h3 h4 h5 h6), fun c h3 => (h2.2.2.2 c h3).trans (h.2.2.2 c h3)⟩
    · exact h
set_option maxRecDepth 100000 in
set_option maxHeartbeats 4000000 in
theorem c_doAdds (l : Launch) (d : gh_D) (g : gh_H) {Z : ZC} {S : SC} {n : Nat} (hA : cA g Z S n) (e : Nat) (he : e < n) (hQ20 : sQ S ≤ 20) (hP60 : sP S ≤ 60) (hab : ∀ i, i < sQ S → S.2.1 17 i = 0 → ∃ p, p < sP S ∧ S.2.1 18 i = nI p) (hpm : ∀ p, p < sP S → ∃ m, m < 16 ∧ S.2.1 11 p = nI m) : gh_C l d mG_doAdds (rr 4 0 0) [.ref (Z 1 0), .ref (Z 12 e)] g (fun v g1 => v = none ∧ cA g1 Z (adL S e (sQ S)) n ∧ fr kA g g1) := by
  refine gh_of [some (.ref (Z 1 0)), some (.ref (Z 12 e)), none] (by decide) rfl (Nat.le_of_ble_eq_true rfl) (by simp [Value.category]) (fun z C hQ => ?_)
  show gh_W l d z 0 [some (.ref (Z 1 0)), some (.ref (Z 12 e)), none] [] g 0 0
  have loop : ∀ (c i : Nat) (g1 : gh_H), i + c = sQ S → cA g1 Z (adL S e i) n → fr kA g g1 → gh_W l d z 2 [some (.ref (Z 1 0)), some (.ref (Z 12 e)), some (.int (nI i))] [] g1 0 0 := by
    intro c
    induction c with
    | zero =>
      intro i g1 hi hA1 hf1
      have hi : i = sQ S := by omega
      have hrq := aq_adL S e i
      have eQ : sQ (adL S e i) = sQ S := by unfold sQ; rw [hrq.1]
      subst hi
      refine gh_iload_n C dG_doAdds_2 rfl ?_
      refine gh_aload_n C dG_doAdds_3 rfl ?_
      refine gh_get C fG_152 hA1.1 rfl dG_doAdds_4 ?_
      refine gh_icmp_ge C 68 dG_doAdds_7 (by decide) (fun c7 => ?_) (fun c7 => ?_)
      ·
        refine gh_vret C hQ rfl dG_doAdds_68 ?_
        exact ⟨rfl, hA1, hf1⟩
      · exact absurd (nI_le (by rw [eQ]; exact Nat.le_refl _) (by omega)) c7
    | succ c ih =>
      intro i g1 hi hA1 hf1
      have hlt0 : i < sQ S := by omega
      have hrq := aq_adL S e i
      have eQ : sQ (adL S e i) = sQ S := by unfold sQ; rw [hrq.1]
      have eP : sP (adL S e i) = sP S := by unfold sP; rw [hrq.1]
      have e17 : (adL S e i).2.1 17 = S.2.1 17 := hrq.2.2.1 17 (by decide) (by decide) (by decide) (by decide)
      have e18 : (adL S e i).2.1 18 = S.2.1 18 := hrq.2.2.1 18 (by decide) (by decide) (by decide) (by decide)
      have e11 : (adL S e i).2.1 11 = S.2.1 11 := hrq.2.2.1 11 (by decide) (by decide) (by decide) (by decide)
      have eN : adL S e (i + 1) = if adQ (adL S e i) i then adS (adL S e i) e ((adL S e i).2.1 18 i).toNatClampNeg else (adL S e i) := rfl
      have inc : ∀ (g2 : gh_H), cA g2 Z (adL S e (i + 1)) n → fr kA g g2 → gh_W l d z 62 [some (.ref (Z 1 0)), some (.ref (Z 12 e)), some (.int (nI i))] [] g2 0 0 := by
        intro g2 hA2 hf2
        refine gh_iinc C (nI (i + 1)) [some (.ref (Z 1 0)), some (.ref (Z 12 e)), some (.int (nI (i + 1)))] dG_doAdds_62 rfl (gh_inc i) rfl ?_
        refine gh_goto C 2 dG_doAdds_65 (by decide) ?_
        exact ih (i + 1) g2 (by omega) hA2 hf2
      obtain ⟨T1, eT1⟩ : ∃ T1, T1 = (adL S e i) := ⟨_, rfl⟩
      rw [← eT1] at hA1 eQ eP e17 e18 e11 eN
      have hlt : i < sQ T1 := by omega
      obtain ⟨qp, yp, hqp, hqp2⟩ := id hA1.2.2.2.2.2.1
      have hw := hA1.2.2.2.1.2 e he
      obtain ⟨⟨qk, hqk, hqk2⟩, hK2⟩ := id hA1.2.2.2.2.1
      refine gh_iload_n C dG_doAdds_2 rfl ?_
      refine gh_aload_n C dG_doAdds_3 rfl ?_
      refine gh_get C fG_152 hA1.1 rfl dG_doAdds_4 ?_
      refine gh_icmp_ge C 68 dG_doAdds_7 (by decide) (fun c7 => ?_) (fun c7 => ?_)
      · exact absurd c7 (show ¬ nI (sQ T1) ≤ nI i from nI_ge (by omega) (by omega))
      ·
        refine gh_aload_n C dG_doAdds_10 rfl ?_
        refine gh_get C fG_36 hA1.1 rfl dG_doAdds_11 ?_
        refine gh_iload_n C dG_doAdds_14 rfl ?_
        refine gh_aaldN C (i) hqp rfl rfl ⟨by omega, by decide⟩ dG_doAdds_15 ?_
        refine gh_tr (some (yp i)) (hqp2 i hlt).1 ?_
        refine gh_get C fG_227 (hqp2 i hlt).2 rfl dG_doAdds_16 ?_
        refine gh_if_ne C 62 dG_doAdds_19 (by decide) (fun c19 => ?_) (fun c19 => ?_)
        · have ez : adL S e (i + 1) = T1 := by rw [eN]; exact if_neg (fun h9 => c19 h9.1)
          exact inc _ (by rw [ez]; exact hA1) hf1
        ·
          obtain ⟨p, hp, hpi⟩ := hab i hlt0 (by rw [← e17]; exact c19)
          have hp1 : T1.2.1 18 i = nI p := by rw [e18]; exact hpi
          have hcl : (T1.2.1 18 i).toNatClampNeg = p := by rw [hp1]; exact nI_clamp (by omega)
          have hpT : p < sP T1 := by omega
          obtain ⟨m, hm, hmp⟩ := hpm p hp
          have hmT : T1.2.1 11 p = nI m := by rw [e11]; exact hmp
          refine gh_aload_n C dG_doAdds_22 rfl ?_
          refine gh_aload_n C dG_doAdds_23 rfl ?_
          refine gh_get C fG_30 hA1.1 rfl dG_doAdds_24 ?_
          refine gh_aload_n C dG_doAdds_27 rfl ?_
          refine gh_get C fG_36 hA1.1 rfl dG_doAdds_28 ?_
          refine gh_iload_n C dG_doAdds_31 rfl ?_
          refine gh_aaldN C (i) hqp rfl rfl ⟨by omega, by decide⟩ dG_doAdds_32 ?_
          refine gh_tr (some (yp i)) (hqp2 i hlt).1 ?_
          refine gh_get C fG_230 (hqp2 i hlt).2 rfl dG_doAdds_33 ?_
          refine gh_aaldN C (p) hqk rfl hp1 ⟨by omega, by decide⟩ dG_doAdds_36 ?_
          refine gh_tr (some (Z 18 p)) (hqk2 p hpT) ?_
          refine gh_callV C [.ref (Z 18 p)] (c_mayBeAdded l d _ hA1.1 hA1.2.2.1 hA1.2.2.2.2.2.2.1 p m (hK2 p hpT) hm hmT) lG_254 wG_mayBeAdded vG_mayBeAdded hA1.1 rfl rfl rfl (Nat.le_of_ble_eq_true rfl) ⟨Nat.le_of_ble_eq_true rfl, Nat.le_of_ble_eq_true rfl⟩ (Nat.le_of_ble_eq_true rfl) (Nat.le_of_ble_eq_true rfl) dG_doAdds_37 (fun v37 g37 h37 => ?_)
          obtain ⟨rfl, rfl⟩ := h37
          refine gh_if_eq C 62 dG_doAdds_40 (by decide) (fun c40 => ?_) (fun c40 => ?_)
          · have e40 : ¬ mba T1 p = true := fun h => by rw [if_pos h] at c40; exact absurd c40 (by decide)
            have ez : adL S e (i + 1) = T1 := by rw [eN]; exact if_neg (fun h9 => e40 (by rw [← hcl]; exact h9.2))
            exact inc _ (by rw [ez]; exact hA1) hf1
          ·
            have e40 : mba T1 p = true := by
              by_cases h : mba T1 p = true
              · exact h
              · rw [if_neg h] at c40; exact absurd rfl c40
            have ez : adL S e (i + 1) = adS T1 e p := by rw [eN, if_pos (show adQ T1 i from ⟨c19, by rw [hcl]; exact e40⟩), hcl]
            refine gh_aload_n C dG_doAdds_43 rfl ?_
            refine gh_aload_n C dG_doAdds_44 rfl ?_
            refine gh_get C fG_30 hA1.1 rfl dG_doAdds_45 ?_
            refine gh_aload_n C dG_doAdds_48 rfl ?_
            refine gh_get C fG_36 hA1.1 rfl dG_doAdds_49 ?_
            refine gh_iload_n C dG_doAdds_52 rfl ?_
            refine gh_aaldN C (i) hqp rfl rfl ⟨by omega, by decide⟩ dG_doAdds_53 ?_
            refine gh_tr (some (yp i)) (hqp2 i hlt).1 ?_
            refine gh_get C fG_230 (hqp2 i hlt).2 rfl dG_doAdds_54 ?_
            refine gh_aaldN C (p) hqk rfl hp1 ⟨by omega, by decide⟩ dG_doAdds_57 ?_
            refine gh_tr (some (Z 18 p)) (hqk2 p hpT) ?_
            refine gh_aload_n C dG_doAdds_58 rfl ?_
            refine gh_callV C [.ref (Z 18 p), .ref (Z 12 e)] (c_addBy l d _ hA1 e he p hpT) lG_258 wG_addBy vG_addBy hA1.1 rfl rfl rfl (Nat.le_of_ble_eq_true rfl) ⟨Nat.le_of_ble_eq_true rfl, Nat.le_of_ble_eq_true rfl⟩ (Nat.le_of_ble_eq_true rfl) (Nat.le_of_ble_eq_true rfl) dG_doAdds_59 (fun v59 g59 h59 => ?_)
            obtain ⟨rfl, hA2, hf2⟩ := h59
            exact inc _ (by rw [ez]; exact hA2) (hf1.trans hf2)
  refine gh_iconst C 0 dG_doAdds_0 (by decide) ?_
  refine gh_istore_n C [some (.ref (Z 1 0)), some (.ref (Z 12 e)), some (.int 0)] dG_doAdds_1 rfl (Nat.le_of_ble_eq_true rfl) ?_
  exact loop (sQ S) 0 g (by omega) hA fr.rf
