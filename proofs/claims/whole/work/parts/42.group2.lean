/-! members and epochs written at one place; dismiss, encrypt, what is sent -/
def mbS (S : SC) (m : Nat) (ep lf sec stk : Int32) (uc : Nat) (f : Nat → Int32) : SC := st2 (stN (st1 (st1 (st1 (st1 S 0 m ep) 1 m lf) 2 m sec) 3 m stk) 1 m uc) 0 m f
theorem cM_mst {g : gh_H} {Z : ZC} {S : SC} (h : cM g Z S) {m : Nat} (hm : m < 16) (ep lf sec stk : Int32) (uc : Nat) (f : Nat → Int32) : cM (mst g m (Z 8 m) (Z 9 m) (Z 10 m) ep lf sec stk uc f) Z (mbS S m ep lf sec stk uc f) := by
  obtain ⟨⟨q, h1, h2⟩, h3⟩ := h
  refine ⟨⟨q, (mst_o (gh_kd (by decide)) (gh_kd (by decide))).trans h1, h2⟩, fun k hk => ?_⟩
  by_cases hkm : k = m
  · subst hkm
    have := mst_pM (ep1 := ep) (lf1 := lf) (sec1 := sec) (stk1 := stk) (uc1 := uc) (f1 := f) (h3 k hk)
    simpa [cM1, mbS, st1, st2, stN] using this
  · have h4 := h3 k hk
    have h5 : cM1 (mst g m (Z 8 m) (Z 9 m) (Z 10 m) ep lf sec stk uc f) Z S k := ⟨(mst_o (gh_kx hkm) (gh_kd (by decide))).trans h4.1, (mst_o (gh_kd (by decide)) (gh_kx hkm)).trans h4.2.1, (mst_o (gh_kd (by decide)) (gh_kd (by decide))).trans h4.2.2⟩
    simpa [cM1, mbS, st1, st2, stN, hkm] using h5
theorem fr_mst {P : Nat → Bool} {g : gh_H} {m a ka ua uc : Nat} {ep lf sec stk : Int32} {f : Nat → Int32} (h8 : P 8 = true) (h9 : P 9 = true) : fr P g (mst g m a ka ua ep lf sec stk uc f) := (fr.rf.u h9).u h8
def lvS (S : SC) (m : Nat) : SC := mbS S m (-1) (-1) (-1) (S.2.1 3 m) 0 (fl 5 (-1) (S.2.2 0 m))
def dmS (S : SC) (a : Nat) : SC := if inn 16 (S.2.1 20 a) = true ∧ lat S (S.2.1 20 a).toNatClampNeg = true then lvS (st1 S 20 a (-1)) (S.2.1 20 a).toNatClampNeg else st1 S 20 a (-1)
def kD (k : Nat) : Bool := k == 8 || k == 9 || k == 21
theorem upd_ow (S : SC) (a : Nat) (x : Int32) : upd (S.2.1 20) a x = (st1 S 20 a x).2.1 20 := by
  funext j
  simp [upd, st1]
set_option maxRecDepth 100000 in
set_option maxHeartbeats 4000000 in
theorem c_dismiss (l : Launch) (d : gh_D) (g : gh_H) {Z : ZC} {S : SC} (hG : cG g Z S) (hM : cM g Z S) (hO : cO g Z S) (a : Nat) (ha : a < 16) (hE1 : 1 ≤ sE S) : gh_C l d mG_dismiss (rr 2 0 0) [.ref (Z 1 0), .int (nI a)] g (fun v g1 => v = none ∧ cM g1 Z (dmS S a) ∧ cO g1 Z (dmS S a) ∧ fr kD g g1) := by
  obtain ⟨⟨qm, hqm, hqm2⟩, hM2⟩ := id hM
  have hM0 := hM
  refine gh_of [some (.ref (Z 1 0)), some (.int (nI a)), none] (by decide) rfl (Nat.le_of_ble_eq_true rfl) (by simp [Value.category]) (fun z C hQ => ?_)
  show gh_W l d z 0 [some (.ref (Z 1 0)), some (.int (nI a)), none] [] g 0 0
  refine gh_aload_n C dG_dismiss_0 rfl ?_
  refine gh_get C fG_40 hG rfl dG_dismiss_1 ?_
  refine gh_iload_n C dG_dismiss_4 rfl ?_
  refine gh_ialdN C (a) hO rfl rfl ⟨ha, by decide⟩ dG_dismiss_5 ?_
  refine gh_istore_n C [some (.ref (Z 1 0)), some (.int (nI a)), some (.int ((S.2.1 20) a))] dG_dismiss_6 rfl (Nat.le_of_ble_eq_true rfl) ?_
  refine gh_aload_n C dG_dismiss_7 rfl ?_
  refine gh_get C fG_40 hG rfl dG_dismiss_8 ?_
  refine gh_iload_n C dG_dismiss_11 rfl ?_
  refine gh_iconst C (-1) dG_dismiss_12 (by decide) ?_
  refine gh_iastN C (a) hO rfl rfl ⟨ha, by decide⟩ dG_dismiss_13 ?_
  rw [upd_ow]
  obtain ⟨g1, eg1⟩ : ∃ g1, g1 = gh_u g (21, 0) (Z 21 0, .inl (0, 16, .inl ((st1 S 20 a (-1)).2.1 20))) := ⟨_, rfl⟩
  have hf1 : fr kD g g1 := by rw [eg1]; exact fr.rf.u rfl
  have hG1 : cG g1 Z (st1 S 20 a (-1)) := hG.fr hf1 rfl
  have hM1 : cM g1 Z (st1 S 20 a (-1)) := hM0.fr (show fr (fun k => k == 21) g g1 by rw [eg1]; exact fr.rf.u rfl) (by decide)
  have hO1 : cO g1 Z (st1 S 20 a (-1)) := by rw [eg1]; exact gh_us
  rw [← eg1]
  obtain ⟨⟨qm1, hqm1, hqm12⟩, hM12⟩ := id hM1
  refine gh_iload_n C dG_dismiss_14 rfl ?_
  refine gh_callS C [.int ((S.2.1 20) a)] (c_isMember l d _ (S.2.1 20 a)) lG_83 wG_isMember sG_isMember rfl rfl (Nat.le_of_ble_eq_true rfl) ⟨Nat.le_of_ble_eq_true rfl, Nat.le_of_ble_eq_true rfl⟩ (Nat.le_of_ble_eq_true rfl) (Nat.le_of_ble_eq_true rfl) dG_dismiss_15 (fun v15 g15 h15 => ?_)
  obtain ⟨rfl, rfl⟩ := h15
  refine gh_if_eq C 38 dG_dismiss_18 (by decide) (fun c18 => ?_) (fun c18 => ?_)
  ·
    have e18 : ¬ inn 16 (S.2.1 20 a) = true := fun h => by rw [if_pos h] at c18; exact absurd c18 (by decide)
    have hz : dmS S a = st1 S 20 a (-1) := if_neg (fun h => e18 h.1)
    refine gh_vret C hQ rfl dG_dismiss_38 ?_
    exact ⟨rfl, by rw [hz]; exact hM1, by rw [hz]; exact hO1, hf1⟩
  ·
    have e18 : inn 16 (S.2.1 20 a) = true := by
      by_cases h : inn 16 (S.2.1 20 a) = true
      · exact h
      · rw [if_neg h] at c18; exact absurd rfl c18
    obtain ⟨m, hm, hmo⟩ := inn_of (by decide) e18
    have hcl : (S.2.1 20 a).toNatClampNeg = m := by rw [hmo]; exact nI_clamp (by omega)
    have hlt1 : lat (st1 S 20 a (-1)) m = lat S m := rfl
    refine gh_aload_n C dG_dismiss_21 rfl ?_
    refine gh_iload_n C dG_dismiss_22 rfl ?_
    refine gh_callV C [.int ((S.2.1 20) a)] ((by rw [hmo]; exact c_isInLatest l d _ hG1 hM1 m hm hE1 : gh_C l d mG_isInLatest (rr 0 0 0) [.ref (Z 1 0), .int (S.2.1 20 a)] _ (fun v g2 => v = some (.int (if lat (st1 S 20 a (-1)) m = true then 1 else 0)) ∧ g2 = _))) lG_113 wG_isInLatest vG_isInLatest hG1 rfl rfl rfl (Nat.le_of_ble_eq_true rfl) ⟨Nat.le_of_ble_eq_true rfl, Nat.le_of_ble_eq_true rfl⟩ (Nat.le_of_ble_eq_true rfl) (Nat.le_of_ble_eq_true rfl) dG_dismiss_23 (fun v23 g23 h23 => ?_)
    obtain ⟨rfl, rfl⟩ := h23
    rw [hlt1]
    refine gh_if_eq C 38 dG_dismiss_26 (by decide) (fun c26 => ?_) (fun c26 => ?_)
    ·
      have e26 : ¬ lat S m = true := fun h => by rw [if_pos h] at c26; exact absurd c26 (by decide)
      have hz : dmS S a = st1 S 20 a (-1) := if_neg (fun h => e26 (by rw [← hcl]; exact h.2))
      refine gh_vret C hQ rfl dG_dismiss_38 ?_
      exact ⟨rfl, by rw [hz]; exact hM1, by rw [hz]; exact hO1, hf1⟩
    ·
      have e26 : lat S m = true := by
        by_cases h : lat S m = true
        · exact h
        · rw [if_neg h] at c26; exact absurd rfl c26
      have hz : dmS S a = lvS (st1 S 20 a (-1)) m := by rw [← hcl]; exact if_pos ⟨e18, by rw [hcl]; exact e26⟩
      refine gh_aload_n C dG_dismiss_29 rfl ?_
      refine gh_get C fG_18 hG1 rfl dG_dismiss_30 ?_
      refine gh_iload_n C dG_dismiss_33 rfl ?_
      refine gh_aaldN C (m) hqm1 rfl hmo ⟨hm, by decide⟩ dG_dismiss_34 ?_
      refine gh_tr (some (Z 8 m)) (hqm12 m hm) ?_
      have hm1 := hM12 m hm
      refine gh_callV C [] (c_leave l d _ hm1) lG_248 wB_leave vB_leave hm1.1 rfl rfl rfl (Nat.le_of_ble_eq_true rfl) ⟨Nat.le_of_ble_eq_true rfl, Nat.le_of_ble_eq_true rfl⟩ (Nat.le_of_ble_eq_true rfl) (Nat.le_of_ble_eq_true rfl) dG_dismiss_35 (fun v35 g35 h35 => ?_)
      obtain ⟨rfl, rfl⟩ := h35
      refine gh_vret C hQ rfl dG_dismiss_38 ?_
      refine ⟨rfl, ?_, ?_, hf1.trans (fr_mst rfl rfl)⟩
      · rw [hz]; exact cM_mst hM1 hm _ _ _ _ _ _
      · rw [hz]; exact (mst_o (gh_kd (by decide)) (gh_kd (by decide))).trans hO1
def frS (S : SC) : SC := stN S 0 3 (sN S + 1)
def tieS (S : SC) (a b c : Int32) : SC := stN (sv1 (sv1 (sv1 S 22 (upd (S.2.1 22) (sR S) a)) 23 (upd (S.2.1 23) (sR S) b)) 24 (upd (S.2.1 24) (sR S) c)) 0 4 (sR S + 1)
def encS (S : SC) (e : Nat) (a c : Int32) : SC := st1 (tieS S a (-1) c) 10 e (S.2.1 10 e + 1)
def okC (S : SC) : Prop := okS (sN S) (sR S) (S.2.1 21) (S.2.1 22) (S.2.1 23) (S.2.1 24)
theorem okC.tie {S : SC} (h : okC S) (hr : sR S < 4096) (a b c : Int32) : okC (tieS S a b c) := okS.tie h hr a b c
theorem okC.fresh {S : SC} (h : okC S) (hn : sN S < 4096) : okC (frS S) := okS.fresh h hn
theorem okC.enc {S : SC} (h : okC S) (hr : sR S < 4096) (e : Nat) (a c : Int32) : okC (encS S e a c) := okS.tie h hr a (-1) c
/-- an epoch's object is written -/
theorem cE_put {g : gh_H} {Z : ZC} {S S1 : SC} {n e : Nat} (h : cE g Z S n) (hE : sE S1 = sE S) (h1 : ∀ i, i ≠ e → cE1 g Z S i → cE1 g Z S1 i) (he : pE (gh_u g (12, e) (Z 12 e, .inr (3, [.int (nI e), .ref (Z 13 e), .int (S1.2.1 4 e), .int (S1.2.1 5 e), .int (S1.2.1 6 e), .int (S1.2.1 7 e), .int (S1.2.1 8 e), .int (S1.2.1 9 e), .int (S1.2.1 10 e)]))) e (Z 12 e) (Z 13 e) (nI e) (S1.2.1 4 e) (S1.2.1 5 e) (S1.2.1 6 e) (S1.2.1 7 e) (S1.2.1 8 e) (S1.2.1 9 e) (S1.2.1 10 e)) (ht : ∀ t, pT g e (S.1 2 e) t (Z 14 e) (Z 15 e) (Z 16 e) (S.2.2 2 e) (S.2.2 3 e) (S.2.2 4 e) → pT g e (S1.1 2 e) t (Z 14 e) (Z 15 e) (Z 16 e) (S1.2.2 2 e) (S1.2.2 3 e) (S1.2.2 4 e)) : cE (gh_u g (12, e) (Z 12 e, .inr (3, [.int (nI e), .ref (Z 13 e), .int (S1.2.1 4 e), .int (S1.2.1 5 e), .int (S1.2.1 6 e), .int (S1.2.1 7 e), .int (S1.2.1 8 e), .int (S1.2.1 9 e), .int (S1.2.1 10 e)]))) Z S1 n := by
  obtain ⟨⟨q, q1, q2⟩, h3⟩ := h
  refine ⟨⟨q, (gh_un (gh_kd (by decide))).trans q1, fun i hi => q2 i (by rw [← hE]; exact hi)⟩, fun i hi => ?_⟩
  by_cases hie : i = e
  · subst hie
    have h4 := ht _ (h3 i hi).2
    exact ⟨he, (gh_un (gh_kd (by decide))).trans h4.1, (gh_un (gh_kd (by decide))).trans h4.2.1, (gh_un (gh_kd (by decide))).trans h4.2.2.1, (gh_un (gh_kd (by decide))).trans h4.2.2.2.1, h4.2.2.2.2⟩
  · have h4 := h1 i hie (h3 i hi)
    exact ⟨(gh_un (gh_kx hie)).trans h4.1, (gh_un (gh_kd (by decide))).trans h4.2.1, (gh_un (gh_kd (by decide))).trans h4.2.2.1, (gh_un (gh_kd (by decide))).trans h4.2.2.2.1, (gh_un (gh_kd (by decide))).trans h4.2.2.2.2.1, h4.2.2.2.2.2⟩
def kN (k : Nat) : Bool := kS k || k == 12
theorem kS_kN {k : Nat} (h : kN k = false) : kS k = false := by
  simp only [kN, Bool.or_eq_false_iff] at h
  exact h.1
set_option maxRecDepth 100000 in
set_option maxHeartbeats 4000000 in
theorem c_encrypt (l : Launch) (d : gh_D) (g : gh_H) {Z : ZC} {S : SC} (hG : cG g Z S) (hS : cS g Z S) (ok : okC S) (hr : sR S < 4096) {n : Nat} (hE : cE g Z S n) (e : Nat) (he : e < n) (x y : Int32) : gh_C l d mG_encrypt (rr 4 3 (6 * cap (sR S + 1) - 6 * cap (sR S))) [.ref (Z 1 0), .ref (Z 12 e), .int x, .int y] g (fun v g1 => v = none ∧ cS g1 Z (encS S e x y) ∧ cE g1 Z (encS S e x y) n ∧ fr kN g g1) := by
  obtain ⟨ao, b1, b2, b3, hs1, hs2, hs3, hs4, hs5⟩ := id hS
  refine gh_of [some (.ref (Z 1 0)), some (.ref (Z 12 e)), some (.int x), some (.int y)] (by decide) rfl (Nat.le_of_ble_eq_true rfl) (by simp [Value.category]) (fun z C hQ => ?_)
  show gh_W l d z 0 [some (.ref (Z 1 0)), some (.ref (Z 12 e)), some (.int x), some (.int y)] [] g 3 (6 * cap (sR S + 1) - 6 * cap (sR S))
  refine gh_aload_n C dG_encrypt_0 rfl ?_
  refine gh_get C fG_12 hG rfl dG_encrypt_1 ?_
  refine gh_iload_n C dG_encrypt_4 rfl ?_
  refine gh_iconst C (-1) dG_encrypt_5 (by decide) ?_
  refine gh_iload_n C dG_encrypt_6 rfl ?_
  refine gh_callV C [.int x, .int (-1), .int y] (c_tie l d _ hS ok hr x (-1) y) lG_311 wS_tie vS_tie hs1 rfl rfl rfl (Nat.le_of_ble_eq_true rfl) ⟨Nat.le_of_ble_eq_true rfl, Nat.le_of_ble_eq_true rfl⟩ (Nat.le_of_ble_eq_true rfl) (Nat.le_refl _) dG_encrypt_7 (fun v7 g7 h7 => ?_)
  obtain ⟨rfl, hS1, hf1⟩ := h7
  have hE1 := cE.fr hE hf1 (by decide)
  have hw := hE1.2 e he
  refine gh_aload_n C dG_encrypt_10 rfl ?_
  refine gh_dup C dG_encrypt_11 rfl ?_
  refine gh_get C fG_221 hw.1 rfl dG_encrypt_12 ?_
  refine gh_iconst C 1 dG_encrypt_15 (by decide) ?_
  refine gh_iadd C dG_encrypt_16 ?_
  refine gh_putL C [.int (nI e), .ref (Z 13 e), .int (S.2.1 4 e), .int (S.2.1 5 e), .int (S.2.1 6 e), .int (S.2.1 7 e), .int (S.2.1 8 e), .int (S.2.1 9 e), .int ((S.2.1 10 e) + 1)] pG_221 (by decide) hw.1 rfl (by simp) rfl rfl dG_encrypt_17 ?_
  refine gh_vret C hQ rfl dG_encrypt_20 ?_
  refine ⟨rfl, ?_, ?_, (hf1.weak (fun k h => kS_kN h)).trans (fr.rf.u rfl)⟩
  · exact pS.fr (P := fun k => k == 12) hS1 (fr.rf.u rfl) (by decide)
  · have h9 := cE_put (S1 := encS S e x y) (e := e) hE1 rfl (fun i hi h => by simpa [cE1, encS, tieS, st1, stN, sv1, hi] using h) gh_us (fun t h => h)
    simpa [encS, tieS, st1, stN, sv1] using h9
