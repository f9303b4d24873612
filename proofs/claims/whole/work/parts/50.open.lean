/-! openEpoch -/
theorem cA.X {g : gh_H} {Z : ZC} {S : SC} {n : Nat} (h : cA g Z S n) : cX g Z S n := ⟨h.1, h.2.1, h.2.2.2.1, h.2.2.2.2.1, h.2.2.2.2.2.2.2.2⟩
theorem cA.of {g g1 : gh_H} {Z : ZC} {S S1 : SC} {n : Nat} (h : cA g Z S n) (hx : cX g1 Z S1 n) (hs : tq S S1) (hf : fr kMP g g1) : cA g1 Z S1 n := by
  refine ⟨hx.1, hx.2.1, ?_, hx.2.2.1, hx.2.2.2.1, ?_, ?_, h.2.2.2.2.2.2.2.1.fr hf (by decide), hx.2.2.2.2⟩
  · obtain ⟨h1, h2⟩ := h.2.2.1.fr hf (by decide)
    refine ⟨h1, fun m hm => ?_⟩
    have := h2 m hm
    unfold cM1 at this ⊢
    rw [hs.1, hs.2.2.2.2.1 0 (by decide), hs.2.2.2.2.1 1 (by decide), hs.2.2.2.1 0 (by decide) (by decide) (by decide), hs.2.2.2.1 1 (by decide) (by decide) (by decide), hs.2.2.2.1 2 (by decide) (by decide) (by decide), hs.2.2.2.1 3 (by decide) (by decide) (by decide)]
    exact this
  · obtain ⟨q, y, h1, h2⟩ := h.2.2.2.2.2.1.fr hf (by decide)
    refine ⟨q, y, h1, ?_⟩
    unfold sQ
    rw [hs.2.2.1 2 (by decide) (by decide), hs.2.2.2.1 17 (by decide) (by decide) (by decide), hs.2.2.2.1 18 (by decide) (by decide) (by decide), hs.2.2.2.1 19 (by decide) (by decide) (by decide)]
    exact h2
  · have := h.2.2.2.2.2.2.1.fr hf (by decide)
    unfold cO at this ⊢
    rw [hs.2.2.2.1 20 (by decide) (by decide) (by decide)]; exact this
theorem kN_kMP2 {k : Nat} (h : kMP k = false) : kN k = false := by
  simp only [kMP, Bool.or_eq_false_iff] at h
  exact h.1.1.1
def op1 (S : SC) (e : Nat) (x : Int32) : SC := dr2S (dr2S S (S.2.1 5 (e - 1)) (-1)) (nI (sN S)) x
def op2 (S : SC) (e : Nat) (x : Int32) : SC := pkS (op1 S e x) e (fun _ => true) (nI (sN S + 1)) (sP S)
def op3 (S : SC) (e : Nat) (x : Int32) : SC := dr2S (op2 S e x) (nI (sN S + 1)) (-1)
def opS (S : SC) (e : Nat) (x : Int32) : SC := stN (st1 (op3 S e x) 5 e (nI (sN (op2 S e x)))) 0 0 (e + 1)
theorem tq_op1 (S : SC) (e : Nat) (x : Int32) : tq S (op1 S e x) := (tq_dr2 _ _ _).trans (tq_dr2 _ _ _)
theorem tq_op2 (S : SC) (e : Nat) (x : Int32) : tq S (op2 S e x) := (tq_op1 S e x).trans (tq_pk _ _ _ _ _)
theorem tq_op3 (S : SC) (e : Nat) (x : Int32) : tq S (op3 S e x) := (tq_op2 S e x).trans (tq_dr2 _ _ _)
/-- the epoch is put into the row -/
theorem cA.opn {g : gh_H} {Z : ZC} {S : SC} {e : Nat} {q : Nat → Option Nat} (h : cA g Z S (e + 1)) (hE : sE S = e) (hq : g (11, 0) = some (Z 11 0, .inl (5, 60, .inr (.inr (.inr (.inr q)))))) (hq2 : ∀ i, i < sE S → q i = some (Z 12 i)) : cA (gh_u (gh_u g (11, 0) (Z 11 0, .inl (5, 60, .inr (.inr (.inr (.inr (va_up q e (some (Z 12 e))))))))) (1, 0) (Z 1 0, .inr (0, [.ref (Z 2 0), .ref (Z 7 0), .ref (Z 11 0), .int (nI (e + 1)), .ref (Z 17 0), .int (nI (sP S)), .ref (Z 19 0), .int (nI (sQ S)), .ref (Z 21 0), .ref (Z 22 0)]))) Z (stN S 0 0 (e + 1)) (e + 1) := by
  have hf : fr (fun k => k == 1 || k == 11) g (gh_u (gh_u g (11, 0) (Z 11 0, .inl (5, 60, .inr (.inr (.inr (.inr (va_up q e (some (Z 12 e))))))))) (1, 0) (Z 1 0, .inr (0, [.ref (Z 2 0), .ref (Z 7 0), .ref (Z 11 0), .int (nI (e + 1)), .ref (Z 17 0), .int (nI (sP S)), .ref (Z 19 0), .int (nI (sQ S)), .ref (Z 21 0), .ref (Z 22 0)]))) := (fr.rf.u rfl).u rfl
  refine ⟨gh_us, h.2.1.fr hf (by decide), h.2.2.1.fr hf (by decide), ⟨⟨va_up q e (some (Z 12 e)), (gh_un (gh_kd (by decide))).trans gh_us, fun i hi => ?_⟩, fun i hi => ?_⟩, h.2.2.2.2.1.fr hf (by decide), h.2.2.2.2.2.1.fr hf (by decide), h.2.2.2.2.2.2.1.fr hf (by decide), h.2.2.2.2.2.2.2.1.fr hf (by decide), h.2.2.2.2.2.2.2.2⟩
  · have hi : i < e + 1 := hi
    by_cases hie : i = e
    · subst hie; simp [va_up]
    · simp [va_up, hie]; exact hq2 i (by omega)
  · exact (h.2.2.2.1.2 i hi).fr hf (by decide)
set_option maxRecDepth 100000 in
set_option maxHeartbeats 4000000 in
theorem c_openEpoch (l : Launch) (d : gh_D) (g : gh_H) {Z : ZC} {S : SC} {e : Nat} (hA : cA g Z S (e + 1)) (hE : sE S = e) (he60 : e < 60) (he1 : 1 ≤ e) (hP60 : sP S ≤ 60) (x : Int32) (hn : sN (op3 S e x) ≤ 4096) (hr : sR (op3 S e x) ≤ 4096) : gh_C l d mG_openEpoch (rr 6 (3 * sP S + 12) (bud (op3 S e x) - bud S)) [.ref (Z 1 0), .ref (Z 12 (e - 1)), .ref (Z 12 e), .int x] g (fun v g1 => v = none ∧ cA g1 Z (opS S e x) (e + 1) ∧ fr kA g g1) := by
  refine gh_of [some (.ref (Z 1 0)), some (.ref (Z 12 (e - 1))), some (.ref (Z 12 e)), some (.int x), none, none] (by decide) rfl (Nat.le_of_ble_eq_true rfl) (by simp [Value.category]) (fun z C hQ => ?_)
  show gh_W l d z 0 [some (.ref (Z 1 0)), some (.ref (Z 12 (e - 1))), some (.ref (Z 12 e)), some (.int x), none, none] [] g (3 * sP S + 12) (bud (op3 S e x) - bud S)
  have he : e < e + 1 := Nat.lt_succ_self e
  obtain ⟨T1, eT1⟩ : ∃ T1, T1 = dr2S S (S.2.1 5 (e - 1)) (-1) := ⟨_, rfl⟩
  obtain ⟨T2, eT2⟩ : ∃ T2, T2 = dr2S T1 (nI (sN S)) x := ⟨_, rfl⟩
  obtain ⟨j, ej⟩ : ∃ j, j = nI (sN S + 1) := ⟨_, rfl⟩
  have eo1 : op1 S e x = T2 := by rw [eT2, eT1]; rfl
  have q1 : tq S T1 := by rw [eT1]; exact tq_dr2 _ _ _
  have q2 : tq T1 T2 := by rw [eT2]; exact tq_dr2 _ _ _
  have q12 := q1.trans q2
  have eP2 : sP T2 = sP S := q12.2.2.1 1 (by decide) (by decide)
  obtain ⟨T3, eT3⟩ : ∃ T3, T3 = pkS T2 e (fun _ => true) j (sP T2) := ⟨_, rfl⟩
  have eo2 : op2 S e x = T3 := by unfold op2; rw [eo1, eT3, ← ej, eP2]
  have q3 : tq T2 T3 := by rw [eT3]; exact tq_pk _ _ _ _ _
  obtain ⟨T4, eT4⟩ : ∃ T4, T4 = dr2S T3 j (-1) := ⟨_, rfl⟩
  have eo3 : op3 S e x = T4 := by unfold op3; rw [eo2, eT4, ← ej]
  have q4 : tq T3 T4 := by rw [eT4]; exact tq_dr2 _ _ _
  have eS : opS S e x = stN (st1 T4 5 e (nI (sN T3))) 0 0 (e + 1) := by unfold opS; rw [eo3, eo2]
  rw [eo3] at hn hr ⊢
  rw [eS] at hQ
  have b1 := bud_dr2 S (S.2.1 5 (e - 1)) (-1)
  rw [← eT1] at b1
  have b2 := bud_dr2 T1 (nI (sN S)) x
  rw [← eT2] at b2
  have b4 := bud_dr2 T3 j (-1)
  rw [← eT4] at b4
  have m3 := bud_m q3
  have m4 := bud_m q4
  have m2 := bud_m q2
  have m1 := bud_m q1
  have n1 := q1.2.2.2.2.2
  have n2 := q2.2.2.2.2.2
  have n3 := q3.2.2.2.2.2
  have n4 := q4.2.2.2.2.2
  have s1 : sN T1 = sN S + 1 := by rw [eT1]; rfl
  have r1 : sR T1 = sR S + 1 := by rw [eT1]; rfl
  have s2 : sN T2 = sN T1 + 1 := by rw [eT2]; rfl
  have r2 : sR T2 = sR T1 + 1 := by rw [eT2]; rfl
  have s4 : sN T4 = sN T3 + 1 := by rw [eT4]; rfl
  have r4 : sR T4 = sR T3 + 1 := by rw [eT4]; rfl
  have b3 := bud_pk T2 e (fun _ => true) j (sP T2)
  rw [← eT3] at b3
  have loop : ∀ (c i : Nat) (g1 : gh_H), i + c = sP T2 → cA g1 Z (pkS T2 e (fun _ => true) j i) (e + 1) → fr kA g g1 → gh_W l d z 24 [some (.ref (Z 1 0)), some (.ref (Z 12 (e - 1))), some (.ref (Z 12 e)), some (.int x), some (.int j), some (.int (nI i))] [] g1 (3 * c + 4) (6 * cap (sR T3) - 6 * cap (sR (pkS T2 e (fun _ => true) j i)) + (bud T4 - bud T3)) := by
    intro c
    induction c with
    | zero =>
      intro i g1 hi hA1 hf1
      have hi : i = sP T2 := by omega
      subst hi
      rw [← eT3] at hA1 ⊢
      have hw := hA1.2.2.2.1.2 e he
      obtain ⟨ao1, x1, y1, w1, hs1, hsb1, hsc1, hsd1, hse1⟩ := id hA1.2.1
      have eP3 : sP T3 = sP T2 := q3.2.2.1 1 (by decide) (by decide)
      refine gh_iload C dG_openEpoch_24 rfl ?_
      refine gh_aload_n C dG_openEpoch_26 rfl ?_
      refine gh_get C fG_90 hA1.1 rfl dG_openEpoch_27 ?_
      refine gh_icmp_ge C 73 dG_openEpoch_30 (by decide) (fun c30 => ?_) (fun c30 => ?_)
      ·
        refine gh_aload_n C dG_openEpoch_73 rfl ?_
        refine gh_aload_n C dG_openEpoch_74 rfl ?_
        refine gh_get C fG_12 hA1.1 rfl dG_openEpoch_75 ?_
        refine gh_iload C dG_openEpoch_78 rfl ?_
        refine gh_callV C [.int j] (c_derive l d _ hA1.2.1 hA1.2.2.2.2.2.2.2.2 (by omega) (by omega) j) lG_288 wS_derive vS_derive hs1 rfl rfl rfl (Nat.le_of_ble_eq_true rfl) ⟨Nat.le_of_ble_eq_true rfl, Nat.le_of_ble_eq_true rfl⟩ (by (try dsimp only [rr]); omega) (by (try dsimp only [rr]); omega) dG_openEpoch_80 (fun v80 g80 h80 => ?_)
        obtain ⟨rfl, hp2, hf2⟩ := h80
        have hA2 : cA _ Z T4 (e + 1) := hA1.of (by rw [eT4]; exact hA1.X.dr2 (by omega) (by omega) hp2 hf2) q4 (hf2.weak (fun k h => kS_kMP h))
        have hw2 := hA2.2.2.2.1.2 e he
        have eE4 : sE T4 = e := by rw [← hE]; exact (q12.trans (q3.trans q4)).2.2.1 0 (by decide) (by decide)
        refine gh_putL C [.int (nI e), .ref (Z 13 e), .int ((st1 T4 5 e (nI (sN T3))).2.1 4 e), .int ((st1 T4 5 e (nI (sN T3))).2.1 5 e), .int ((st1 T4 5 e (nI (sN T3))).2.1 6 e), .int ((st1 T4 5 e (nI (sN T3))).2.1 7 e), .int ((st1 T4 5 e (nI (sN T3))).2.1 8 e), .int ((st1 T4 5 e (nI (sN T3))).2.1 9 e), .int ((st1 T4 5 e (nI (sN T3))).2.1 10 e)] pG_72 (by decide) hw2.1 (by simp [st1]) (by simp) rfl rfl dG_openEpoch_83 ?_
        have hA3 := hA2.ep (e := e) 5 (nI (sN T3)) (by decide)
        obtain ⟨⟨qe, hqe, hqe2⟩, hE3⟩ := id hA3.2.2.2.1
        have hw3 := hE3 e he
        have hA4 := hA3.opn (show sE T4 = e from eE4) hqe hqe2
        refine gh_aload_n C dG_openEpoch_86 rfl ?_
        refine gh_get C fG_24 hA3.1 rfl dG_openEpoch_87 ?_
        refine gh_aload_n C dG_openEpoch_90 rfl ?_
        refine gh_get C fG_76 hA3.1 rfl dG_openEpoch_91 ?_
        refine gh_aload_n C dG_openEpoch_94 rfl ?_
        refine gh_aastN C (e) hqe rfl hw3.1 rfl (by show nI (sE T4) = nI e; rw [eE4]) ⟨he60, by decide⟩ dG_openEpoch_95 ?_
        refine gh_aload_n C dG_openEpoch_96 rfl ?_
        refine gh_dup C dG_openEpoch_97 rfl ?_
        refine gh_get C fG_76 ((gh_un (gh_kd (by decide))).trans hA3.1) rfl dG_openEpoch_98 ?_
        refine gh_iconst C 1 dG_openEpoch_101 (by decide) ?_
        refine gh_iadd C dG_openEpoch_102 ?_
        refine gh_ti (nI (e + 1)) (by show nI (sE T4) + 1 = nI (e + 1); rw [eE4]; exact nI_1 e) ?_
        refine gh_putL C [.ref (Z 2 0), .ref (Z 7 0), .ref (Z 11 0), .int (nI (e + 1)), .ref (Z 17 0), .int (nI (sP (st1 T4 5 e (nI (sN T3))))), .ref (Z 19 0), .int (nI (sQ (st1 T4 5 e (nI (sN T3))))), .ref (Z 21 0), .ref (Z 22 0)] pG_76 (by decide) ((gh_un (gh_kd (by decide))).trans hA3.1) rfl (by simp) rfl rfl dG_openEpoch_103 ?_
        refine gh_vret C hQ rfl dG_openEpoch_106 ?_
        exact ⟨rfl, hA4, (((hf1.trans (hf2.weak (fun k h => kS_kA h))).u rfl).u rfl).u rfl⟩
      · exact absurd (show nI (sP T3) ≤ nI (sP T2) from nI_le (by omega) (by omega)) c30
    | succ c ih =>
      intro i g1 hi hA1 hf1
      have hlt : i < sP T2 := by omega
      have hm1 := pk_m T2 e (fun _ => true) j (show i ≤ sP T2 by omega)
      have hm0 := pk_m T2 e (fun _ => true) j (Nat.zero_le i)
      have hm2 := pk_m T2 e (fun _ => true) j (show i + 1 ≤ sP T2 by omega)
      rw [← eT3] at hm1 hm2
      have hs := sq_pk T2 e (fun _ => true) j i
      have eP : sP (pkS T2 e (fun _ => true) j i) = sP T2 := hs.2.2.1 1 (by decide) (by decide)
      have hw := hA1.2.2.2.1.2 e he
      obtain ⟨⟨qk, hqk, hqk2⟩, hK2⟩ := id hA1.2.2.2.2.1
      have hki := hK2 i (by omega)
      unfold cK1 at hki
      rw [hs.2.2.2.2 11 (by decide) (by decide), hs.2.2.2.2 12 (by decide) (by decide), hs.2.2.2.2 13 (by decide) (by decide), hs.2.2.2.2 14 (by decide) (by decide), hs.2.2.2.2 15 (by decide) (by decide), hs.2.2.2.2 16 (by decide) (by decide)] at hki
      refine gh_iload C dG_openEpoch_24 rfl ?_
      refine gh_aload_n C dG_openEpoch_26 rfl ?_
      refine gh_get C fG_90 hA1.1 rfl dG_openEpoch_27 ?_
      refine gh_icmp_ge C 73 dG_openEpoch_30 (by decide) (fun c30 => ?_) (fun c30 => ?_)
      · exact absurd c30 (show ¬ nI (sP (pkS T2 e (fun _ => true) j i)) ≤ nI i from nI_ge (by omega) (by omega))
      ·
        refine gh_aload_n C dG_openEpoch_33 rfl ?_
        refine gh_get C fG_30 hA1.1 rfl dG_openEpoch_34 ?_
        refine gh_iload C dG_openEpoch_37 rfl ?_
        refine gh_aaldN C (i) hqk rfl rfl ⟨by omega, by decide⟩ dG_openEpoch_39 ?_
        refine gh_tr (some (Z 18 i)) (hqk2 i (by omega)) ?_
        refine gh_get C fG_262 hki rfl dG_openEpoch_40 ?_
        refine gh_aload_n C dG_openEpoch_43 rfl ?_
        refine gh_get C fG_158 hw.1 rfl dG_openEpoch_44 ?_
        refine gh_icmp_ne C 67 dG_openEpoch_47 (by decide) (fun c47 => ?_) (fun c47 => ?_)
        · have ez : (pkS T2 e (fun _ => true) j (i + 1)) = (pkS T2 e (fun _ => true) j i) := if_neg (fun h9 => c47 h9.1)
          refine gh_iinc C (nI (i + 1)) [some (.ref (Z 1 0)), some (.ref (Z 12 (e - 1))), some (.ref (Z 12 e)), some (.int x), some (.int j), some (.int (nI (i + 1)))] dG_openEpoch_67 rfl (gh_inc i) rfl ?_
          refine gh_goto C 24 dG_openEpoch_70 (by decide) ?_
          refine gh_less C (3 * c + 4) (6 * cap (sR T3) - 6 * cap (sR (pkS T2 e (fun _ => true) j (i + 1))) + (bud T4 - bud T3)) (by omega) (by rw [ez]; omega) ?_
          exact ih (i + 1) _ (by omega) (by rw [ez]; exact hA1) hf1
        ·
          have ez : (pkS T2 e (fun _ => true) j (i + 1)) = encS (pkS T2 e (fun _ => true) j i) e (T2.2.1 12 i) j := if_pos ⟨c47, rfl⟩
          have er : sR (pkS T2 e (fun _ => true) j (i + 1)) = sR (pkS T2 e (fun _ => true) j i) + 1 := by rw [ez]; rfl
          have hc1 := cap_mono (show sR (pkS T2 e (fun _ => true) j i) ≤ sR (pkS T2 e (fun _ => true) j i) + 1 by omega)
          have hc2 := cap_mono hm2.1
          rw [er] at hc2
          refine gh_aload_n C dG_openEpoch_50 rfl ?_
          refine gh_aload_n C dG_openEpoch_51 rfl ?_
          refine gh_aload_n C dG_openEpoch_52 rfl ?_
          refine gh_get C fG_30 hA1.1 rfl dG_openEpoch_53 ?_
          refine gh_iload C dG_openEpoch_56 rfl ?_
          refine gh_aaldN C (i) hqk rfl rfl ⟨by omega, by decide⟩ dG_openEpoch_58 ?_
          refine gh_tr (some (Z 18 i)) (hqk2 i (by omega)) ?_
          refine gh_get C fG_305 hki rfl dG_openEpoch_59 ?_
          refine gh_iload C dG_openEpoch_62 rfl ?_
          refine gh_callV C [.ref (Z 12 e), .int (T2.2.1 12 i), .int j] (c_encrypt l d _ hA1.1 hA1.2.1 hA1.2.2.2.2.2.2.2.2 (by omega) hA1.2.2.2.1 e he (T2.2.1 12 i) j) lG_302 wG_encrypt vG_encrypt hA1.1 rfl rfl rfl (Nat.le_of_ble_eq_true rfl) ⟨Nat.le_of_ble_eq_true rfl, Nat.le_of_ble_eq_true rfl⟩ (by (try dsimp only [rr]); omega) (by (try dsimp only [rr]); omega) dG_openEpoch_64 (fun v64 g64 h64 => ?_)
          obtain ⟨rfl, hS2, hE2, hf2⟩ := h64
          have hA2 : cA g64 Z (pkS T2 e (fun _ => true) j (i + 1)) (e + 1) := by
            rw [ez]
            exact hA1.of (hA1.X.sq (sq_enc _ _ _ _) hS2 (hA1.2.2.2.2.2.2.2.2.enc (by omega) _ _ _) hE2 hf2) ((sq_enc _ _ _ _).tq (Nat.le_refl _) (Nat.le_succ _)) (hf2.weak (fun k h => kN_kMP2 h))
          refine gh_iinc C (nI (i + 1)) [some (.ref (Z 1 0)), some (.ref (Z 12 (e - 1))), some (.ref (Z 12 e)), some (.int x), some (.int j), some (.int (nI (i + 1)))] dG_openEpoch_67 rfl (gh_inc i) rfl ?_
          refine gh_goto C 24 dG_openEpoch_70 (by decide) ?_
          refine gh_less C (3 * c + 4) (6 * cap (sR T3) - 6 * cap (sR (pkS T2 e (fun _ => true) j (i + 1))) + (bud T4 - bud T3)) (by (try dsimp only [rr]); omega) (by (try dsimp only [rr]); rw [er]; omega) ?_
          exact ih (i + 1) _ (by omega) hA2 (hf1.trans (hf2.weak (fun k h => kN_kA h)))
  have hwb := hA.2.2.2.1.2 (e - 1) (by omega)
  obtain ⟨ao0, x0, y0, w0, hs0, hsb0, hsc0, hsd0, hse0⟩ := id hA.2.1
  refine gh_aload_n C dG_openEpoch_0 rfl ?_
  refine gh_get C fG_12 hA.1 rfl dG_openEpoch_1 ?_
  refine gh_aload_n C dG_openEpoch_4 rfl ?_
  refine gh_get C fG_12 hA.1 rfl dG_openEpoch_5 ?_
  refine gh_aload_n C dG_openEpoch_8 rfl ?_
  refine gh_get C fG_72 hwb.1 rfl dG_openEpoch_9 ?_
  refine gh_callV C [.int (S.2.1 5 (e - 1))] (c_derive l d _ hA.2.1 hA.2.2.2.2.2.2.2.2 (by omega) (by omega) (S.2.1 5 (e - 1))) lG_288 wS_derive vS_derive hs0 rfl rfl rfl (Nat.le_of_ble_eq_true rfl) ⟨Nat.le_of_ble_eq_true rfl, Nat.le_of_ble_eq_true rfl⟩ (by (try dsimp only [rr]); omega) (by (try dsimp only [rr]); omega) dG_openEpoch_12 (fun v12 g12 h12 => ?_)
  obtain ⟨rfl, hp1, hf1⟩ := h12
  have hA1 : cA _ Z T1 (e + 1) := hA.of (by rw [eT1]; exact hA.X.dr2 (by omega) (by omega) hp1 hf1) q1 (hf1.weak (fun k h => kS_kMP h))
  obtain ⟨ao1, x1, y1, w1, hs1, hsb1, hsc1, hsd1, hse1⟩ := id hA1.2.1
  refine gh_iload_n C dG_openEpoch_15 rfl ?_
  refine gh_callV C [.int (nI (sN S)), .int x] (c_deriveOfTwo l d _ hA1.2.1 hA1.2.2.2.2.2.2.2.2 (by omega) (by omega) (nI (sN S)) x) lG_308 wS_deriveOfTwo vS_deriveOfTwo hs1 rfl rfl rfl (Nat.le_of_ble_eq_true rfl) ⟨Nat.le_of_ble_eq_true rfl, Nat.le_of_ble_eq_true rfl⟩ (by (try dsimp only [rr]); omega) (by (try dsimp only [rr]); omega) dG_openEpoch_16 (fun v16 g16 h16 => ?_)
  obtain ⟨rfl, hp2, hf2⟩ := h16
  have hA2 : cA _ Z T2 (e + 1) := hA1.of (by rw [eT2]; exact hA1.X.dr2 (by omega) (by omega) hp2 hf2) q2 (hf2.weak (fun k h => kS_kMP h))
  rw [show nI (sN T1) = j by rw [ej, s1]]
  refine gh_istore C [some (.ref (Z 1 0)), some (.ref (Z 12 (e - 1))), some (.ref (Z 12 e)), some (.int x), some (.int j), none] dG_openEpoch_19 rfl (Nat.le_of_ble_eq_true rfl) ?_
  refine gh_iconst C 0 dG_openEpoch_21 (by decide) ?_
  refine gh_istore C [some (.ref (Z 1 0)), some (.ref (Z 12 (e - 1))), some (.ref (Z 12 e)), some (.int x), some (.int j), some (.int 0)] dG_openEpoch_22 rfl (Nat.le_of_ble_eq_true rfl) ?_
  have e0 : (pkS T2 e (fun _ => true) j 0) = T2 := rfl
  refine gh_less C (3 * sP T2 + 4) (6 * cap (sR T3) - 6 * cap (sR (pkS T2 e (fun _ => true) j 0)) + (bud T4 - bud T3)) (by (try dsimp only [rr]); omega) (by rw [e0]; (try dsimp only [rr]); omega) ?_
  exact loop (sP T2) 0 _ (by omega) hA2 ((hf1.weak (fun k h => kS_kA h)).trans (hf2.weak (fun k h => kS_kA h)))
