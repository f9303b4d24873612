theorem pT_un {g : gh_H} {i D t ka ba ua : Nat} {K B U : Nat → Int32} {k : gh_K} {v : Nat × gh_E} (h : pT g i D t ka ba ua K B U) (h1 : (13, i) ≠ k) (h2 : (14, i) ≠ k) (h3 : (15, i) ≠ k) (h4 : (16, i) ≠ k) : pT (gh_u g k v) i D t ka ba ua K B U :=
  ⟨(gh_un h1).trans h.1, (gh_un h2).trans h.2.1, (gh_un h3).trans h.2.2.1, (gh_un h4).trans h.2.2.2.1, h.2.2.2.2⟩
theorem tq_op (S : SC) (e : Nat) (x : Int32) : sN (opS S e x) = sN (op3 S e x) ∧ sR (opS S e x) = sR (op3 S e x) := ⟨rfl, rfl⟩
/-- what a commit asks of the state -/
def cmOk (S : SC) (m a : Nat) (x : Int32) : Prop :=
  1 ≤ sE S ∧ sE S < 60 ∧ m < 16 ∧ lat S m = true ∧ sQ S ≤ 20 ∧ sP S ≤ 60 ∧ (a < 16 ∧ S.2.1 1 m = nI a) ∧
  (∀ i, i < sQ S → S.2.1 17 i = 1 → ∃ b, b < 16 ∧ S.2.1 18 i = nI b) ∧
  (∀ i, i < sQ S → S.2.1 17 i = 2 → ∃ b, b < 16 ∧ S.2.1 18 i = nI b ∧ (S.2.1 18 i ≠ nI a → (cm1 S m).2.1 7 (sE S) &&& bitN b = 0 → b < 2 ^ (cm1 S m).1 2 (sE S))) ∧
  (∀ i, i < sQ S → S.2.1 17 i = 0 → ∃ p, p < sP S ∧ S.2.1 18 i = nI p) ∧
  (∀ p, p < sP S → ∃ k, k < 16 ∧ S.2.1 11 p = nI k) ∧
  (cm1 S m).2.1 1 m = nI a ∧ a < 2 ^ (cm3 S m).1 2 (sE S) ∧
  (∀ i, i < sP S → (cm3 S m).2.1 14 i = nI (sE S) → ∃ b, b < 16 ∧ (cm3 S m).2.1 15 i = nI b) ∧
  sN (cm5 S m x) + 10 ≤ 4096 ∧ sR (cm5 S m x) + 100 ≤ 4096
set_option maxRecDepth 100000 in
set_option maxHeartbeats 4000000 in
theorem c_commit (l : Launch) (d : gh_D) (g : gh_H) {Z : ZC} {S : SC} (hA : cA g Z S (sE S)) (m a : Nat) (x : Int32) (ok : cmOk S m a x) : gh_C l d mG_commit (rr 10 1420 (110 + (bud (cm5 S m x) - bud S))) [.ref (Z 1 0), .int (nI m), .int x] g (fun v g1 => v = some (.int (nI (sE S))) ∧ ∃ Z1 : ZC, Z1 1 0 = Z 1 0 ∧ cA g1 Z1 (cm7 S m x) (sE S + 1) ∧ fr kA g g1) := by
  refine gh_of [some (.ref (Z 1 0)), some (.int (nI m)), some (.int x), none, none, none, none, none, none] (by decide) rfl (Nat.le_of_ble_eq_true rfl) (by simp [Value.category]) (fun z C hQ => ?_)
  show gh_W l d z 0 [some (.ref (Z 1 0)), some (.int (nI m)), some (.int x), none, none, none, none, none, none] [] g 1420 (110 + (bud (cm5 S m x) - bud S))
  obtain ⟨he1, hE60, hm, hlat, hQ20, hP60, ⟨ha16, hL⟩, k1, k2, k3, kpm, k5, k4, kl, kN9, kR9⟩ := ok
  have hac : (S.2.1 1 m).toNatClampNeg = a := by rw [hL]; exact nI_clamp (by omega)
  obtain ⟨e, ee⟩ : ∃ e, e = sE S := ⟨_, rfl⟩
  rw [← ee] at he1 hE60 k2 k4 kl
  obtain ⟨S0, eS0⟩ : ∃ S0, S0 = cm0 S m := ⟨_, rfl⟩
  obtain ⟨S1, eS1⟩ : ∃ S1, S1 = cm1 S m := ⟨_, rfl⟩
  obtain ⟨S2, eS2⟩ : ∃ S2, S2 = cm2 S m := ⟨_, rfl⟩
  obtain ⟨S3, eS3⟩ : ∃ S3, S3 = cm3 S m := ⟨_, rfl⟩
  obtain ⟨S4, eS4⟩ : ∃ S4, S4 = (cm4 S m x).1 := ⟨_, rfl⟩
  obtain ⟨y4, ey4⟩ : ∃ y4, y4 = (cm4 S m x).2 := ⟨_, rfl⟩
  obtain ⟨S5, eS5⟩ : ∃ S5, S5 = cm5 S m x := ⟨_, rfl⟩
  obtain ⟨S6, eS6⟩ : ∃ S6, S6 = cm6 S m x := ⟨_, rfl⟩
  have f0 : S0 = nwS S e (S.2.1 1 m) := by rw [eS0, ee]; rfl
  have f1 : S1 = rmS S0 e := by rw [eS1, eS0, ee]; rfl
  have f5 : S5 = opS S4 e y4 := by rw [eS5, eS4, ey4, ee]; rfl
  have f6 : S6 = mvS S5 m e a := by rw [eS6, eS5, ee, ← hac]; rfl
  have g0Q : sQ S0 = sQ S := by rw [f0]; rfl
  have g0P : sP S0 = sP S := by rw [f0]; rfl
  have g0E : sE S0 = e := by rw [f0, ee]; rfl
  have g0N : sN S0 = sN S := by rw [f0]; rfl
  have g0R : sR S0 = sR S := by rw [f0]; rfl
  have g0c : ∀ c, c < 4 ∨ 10 < c → S0.2.1 c = S.2.1 c := fun c hc => by
    funext i
    rw [f0]
    simp only [nwS]
    rw [if_neg (by omega)]
  have g04 : S0.2.1 4 e = nI a := by rw [f0]; simp [nwS, hL]
  have r01 := rq_rmL S0 e (sQ S0)
  have h10 : S1.1 0 = S0.1 0 := by
    have h9 : S1.1 0 = (rmL S0 e (sQ S0)).1 0 := by rw [f1]; funext b; simp [rmS, shS, dpS, trS, stN, st2]
    rw [h9]; exact r01.1
  have h1c : ∀ c, 4 ≤ c → c ≠ 7 → c ≠ 20 → S1.2.1 c = S0.2.1 c := fun c h2 h3 h4 => by
    have h9 : S1.2.1 c = (rmL S0 e (sQ S0)).2.1 c := by rw [f1]; rfl
    rw [h9]; exact r01.2.2 c h2 h3 h4
  have g1Q : sQ S1 = sQ S := by unfold sQ at g0Q ⊢; rw [h10, g0Q]
  have f2 : S2 = upL S1 e (sQ S1) := by rw [g1Q, eS2, eS1, ee]; rfl
  have u2 := uq_upL S1 e (sQ S1)
  rw [← f2] at u2
  have h2c : ∀ c, 4 ≤ c → c ≠ 7 → c ≠ 8 → c ≠ 20 → S2.2.1 c = S0.2.1 c := fun c h3 h4 h5 h6 => (u2.2.1 c h5).trans (h1c c h3 h4 h6)
  have h20 : S2.1 0 = S0.1 0 := by rw [u2.1]; exact h10
  have g2Q : sQ S2 = sQ S := by unfold sQ at g0Q ⊢; rw [h20, g0Q]
  have g2P : sP S2 = sP S := by unfold sP at g0P ⊢; rw [h20, g0P]
  have f3 : S3 = adL S2 e (sQ S2) := by rw [g2Q, eS3, eS2, ee]; rfl
  have a3 := aq_adL S2 e (sQ S2)
  rw [← f3] at a3
  have h30 : S3.1 0 = S0.1 0 := a3.1.trans h20
  have g3P : sP S3 = sP S := by unfold sP at g0P ⊢; rw [h30, g0P]
  have g3E : sE S3 = e := by unfold sE at g0E ⊢; rw [h30, g0E]
  have g3N : sN S3 = sN S := by unfold sN at g0N ⊢; rw [h30, g0N]
  have g3R : sR S3 = sR S := by unfold sR at g0R ⊢; rw [h30, g0R]
  have g34 : S3.2.1 4 e = nI a := by rw [a3.2.2.1 4 (by decide) (by decide) (by decide) (by decide), h2c 4 (by decide) (by decide) (by decide) (by decide)]; exact g04
  have g31 : S3.2.1 1 m = nI a := by rw [a3.2.2.1 1 (by decide) (by decide) (by decide) (by decide), u2.2.1 1 (by decide), eS1]; exact k5
  have t4 : tq S3 S4 := by
    rw [eS4]; unfold cm4
    split
    · rw [← eS3]; exact (tq_mpL _ _ _ _).trans (tq_nx _ _)
    · rw [← eS3]; exact tq.rf
  have t5 := tq_op3 S4 e y4
  have t45 := t4.trans t5
  have n5 : sN S5 = sN (op3 S4 e y4) := by rw [f5]; rfl
  have r5 : sR S5 = sR (op3 S4 e y4) := by rw [f5]; rfl
  have b5 : bud S5 = bud (op3 S4 e y4) := by rw [f5]; rfl
  have b3 : bud S3 = bud S := by unfold bud; rw [g3N, g3R]
  have c4 := bud_m t4
  have c5 := bud_m t5
  have m4 := t4.2.2.2.2.2
  have m5 := t5.2.2.2.2.2
  rw [← eS5] at kN9 kR9 ⊢
  rw [← eS3] at k4 kl
  rw [← eS1] at k2
  have g5e : ∀ c, c ≠ 5 → c ≠ 6 → c ≠ 10 → c < 21 → S5.2.1 c = S3.2.1 c := fun c h1 h2 h3 h4 => by
    rw [f5]
    have h9 : (opS S4 e y4).2.1 c = (op3 S4 e y4).2.1 c := by funext i; simp [opS, stN, st1, h1]
    rw [h9]; exact t45.2.2.2.1 c h3 h2 h4
  have g5D : S5.1 2 = S3.1 2 := by
    rw [f5]
    have h9 : (opS S4 e y4).1 2 = (op3 S4 e y4).1 2 := by funext i; simp [opS, stN, st1]
    rw [h9]; exact t45.2.1
  have he : e < e + 1 := Nat.lt_succ_self e
  have rest : ∀ (Y : ZC) (g1 : gh_H), Y 1 0 = Z 1 0 → cA g1 Y S0 (e + 1) → fr kA g g1 → gh_W l d z 89 [some (.ref (Y 1 0)), some (.int (nI m)), some (.int x), some (.ref (Y 8 m)), some (.ref (Y 12 (e - 1))), some (.ref (Y 12 e)), none, none, none] [] g1 1415 (bud S5 - bud S) := by
    intro Y g1 hY hA0 hf1
    obtain ⟨ao, x1, x2, x3, hs0, hs1, hs2, hs3, hs4⟩ := id hA0.2.1
    have hw0 := hA0.2.2.2.1.2 e he
    have tail : ∀ (g4 : gh_H) (y7 : Option Value), cA g4 Y S4 (e + 1) → fr kA g g4 → gh_W l d z 166 [some (.ref (Y 1 0)), some (.int (nI m)), some (.int x), some (.ref (Y 8 m)), some (.ref (Y 12 (e - 1))), some (.ref (Y 12 e)), some (.int (nI (sR S))), y7, none] [.int y4] g4 215 (bud S5 - bud S4) := by
      intro g4 y7 hA4 hf4
      have g4E : sE S4 = e := by rw [← g3E]; exact t4.2.2.1 0 (by decide) (by decide)
      have g4P : sP S4 = sP S := by rw [← g3P]; exact t4.2.2.1 1 (by decide) (by decide)
      have hw4 := hA4.2.2.2.1.2 e he
      refine gh_istore C [some (.ref (Y 1 0)), some (.int (nI m)), some (.int x), some (.ref (Y 8 m)), some (.ref (Y 12 (e - 1))), some (.ref (Y 12 e)), some (.int (nI (sR S))), y7, some (.int y4)] dG_commit_166 rfl (Nat.le_of_ble_eq_true rfl) ?_
      refine gh_aload_n C dG_commit_168 rfl ?_
      refine gh_aload C dG_commit_169 rfl ?_
      refine gh_aload C dG_commit_171 rfl ?_
      refine gh_iload C dG_commit_173 rfl ?_
      refine gh_callV C [.ref (Y 12 (e - 1)), .ref (Y 12 e), .int y4] (c_openEpoch l d _ hA4 g4E hE60 he1 (by omega) y4 (by omega) (by omega)) lG_145 wG_openEpoch vG_openEpoch hA4.1 rfl rfl rfl (Nat.le_of_ble_eq_true rfl) ⟨Nat.le_of_ble_eq_true rfl, Nat.le_of_ble_eq_true rfl⟩ (by (try dsimp only [rr]); omega) (by (try dsimp only [rr]); omega) dG_commit_175 (fun v175 g175 h175 => ?_)
      obtain ⟨rfl, hA5, hf5⟩ := h175
      rw [← f5] at hA5
      have hw5 := hA5.2.2.2.1.2 e he
      have hm5 := hA5.2.2.1.2 m hm
      have g51 : S5.2.1 1 m = nI a := by rw [g5e 1 (by decide) (by decide) (by decide) (by decide)]; exact g31
      refine gh_aload_n C dG_commit_178 rfl ?_
      refine gh_aload C dG_commit_179 rfl ?_
      refine gh_callV C [.ref (Y 12 e)] (c_moveByCommit l d _ hm5 hw5.2 hw5.1 a g51 (by rw [g5D]; exact k4)) lG_149 wB_moveByCommit vB_moveByCommit hm5.1 rfl rfl rfl (Nat.le_of_ble_eq_true rfl) ⟨Nat.le_of_ble_eq_true rfl, Nat.le_of_ble_eq_true rfl⟩ (Nat.le_of_ble_eq_true rfl) (Nat.le_of_ble_eq_true rfl) dG_commit_181 (fun v181 g181 h181 => ?_)
      obtain ⟨rfl, rfl⟩ := h181
      have hA6 := hA5.mb hm (nI e) (nI a) (nsec (S5.2.1 2 m) (S5.2.1 5 e)) (S5.2.1 3 m) 0 (lrq (S5.1 2 e) (S5.2.2 2 e) (S5.2.1 6 e) a (lowc (S5.1 2 e) (S5.2.1 6 e) a) (upd (drp (S5.1 2 e) (S5.2.2 2 e) a (S5.2.2 0 m) 5) 0 (S5.2.2 2 e (2 * a))))
      change cA _ Y (mvS S5 m e a) (e + 1) at hA6
      rw [← f6] at hA6
      have hw6 := hA6.2.2.2.1.2 e he
      refine gh_aload_n C dG_commit_184 rfl ?_
      refine gh_iconst C 0 dG_commit_185 (by decide) ?_
      refine gh_putL C [.ref (Y 2 0), .ref (Y 7 0), .ref (Y 11 0), .int (nI (sE S6)), .ref (Y 17 0), .int (nI (sP S6)), .ref (Y 19 0), .int 0, .ref (Y 21 0), .ref (Y 22 0)] pG_152 (by decide) hA6.1 rfl (by simp) rfl rfl dG_commit_186 ?_
      have hA7 := hA6.q0
      have hw7 := hA7.2.2.2.1.2 e he
      obtain ⟨ao7, x71, x72, x73, hs70, hs71, hs72, hs73, hs74⟩ := id hA7.2.1
      have r67 : sR S ≤ sR (stN S6 0 2 0) := by
        have e9 : sR (stN S6 0 2 0) = sR S5 := by rw [f6]; rfl
        rw [e9]; omega
      refine gh_aload_n C dG_commit_189 rfl ?_
      refine gh_get C fG_12 gh_us rfl dG_commit_190 ?_
      refine gh_iload C dG_commit_193 rfl ?_
      refine gh_callV C [.int (nI (sR S))] (c_spread l d _ hA7.2.1 hA7.2.2.2.2.2.2.2.2 (sR S) r67) lG_155 wS_spread vS_spread hs70 rfl rfl rfl (Nat.le_of_ble_eq_true rfl) ⟨Nat.le_of_ble_eq_true rfl, Nat.le_of_ble_eq_true rfl⟩ (Nat.le_of_ble_eq_true rfl) (Nat.le_of_ble_eq_true rfl) dG_commit_195 (fun v195 g195 h195 => ?_)
      obtain ⟨rfl, hp8, hf8⟩ := h195
      have hA8 := hA7.out hp8 (okS_spr _ _ _ hA7.2.2.2.2.2.2.2.2) hf8
      change cA _ Y (spV (stN S6 0 2 0) (sR S)) (e + 1) at hA8
      have hw8 := hA8.2.2.2.1.2 e he
      refine gh_aload C dG_commit_198 rfl ?_
      refine gh_get C fG_158 hw8.1 rfl dG_commit_200 ?_
      refine gh_iret C hQ rfl dG_commit_203 ?_
      refine ⟨by rw [ee], Y, hY, ?_, (((hf4.trans hf5).trans (fr_mst rfl rfl)).u rfl).trans (hf8.weak (fun k h => kS_kA h))⟩
      rw [show cm7 S m x = spV (stN S6 0 2 0) (sR S) by rw [eS6]; rfl, ← ee]
      exact hA8
    have path : ∀ (g3 : gh_H), cA g3 Y S3 (e + 1) → fr kA g g3 → cmp S3 e x → gh_W l d z 149 [some (.ref (Y 1 0)), some (.int (nI m)), some (.int x), some (.ref (Y 8 m)), some (.ref (Y 12 (e - 1))), some (.ref (Y 12 e)), some (.int (nI (sR S))), none, none] [.int 1] g3 1415 (bud S5 - bud S) := by
      intro g3 hA3 hf3 hcp
      have e4 : cm4 S m x = mpS S3 e a (S3.1 2 e) := by unfold cm4; rw [← eS3, ← ee, if_pos hcp, hac]
      have q4 : S4 = (mpS S3 e a (S3.1 2 e)).1 := by rw [eS4, e4]
      have q5 : y4 = (mpS S3 e a (S3.1 2 e)).2 := by rw [ey4, e4]
      have hw3 := hA3.2.2.2.1.2 e he
      refine gh_istore C [some (.ref (Y 1 0)), some (.int (nI m)), some (.int x), some (.ref (Y 8 m)), some (.ref (Y 12 (e - 1))), some (.ref (Y 12 e)), some (.int (nI (sR S))), some (.int 1), none] dG_commit_149 rfl (Nat.le_of_ble_eq_true rfl) ?_
      refine gh_iload C dG_commit_151 rfl ?_
      refine gh_if_eq C 165 dG_commit_153 (by decide) (fun c153 => ?_) (fun c153 => ?_)
      · exact absurd c153 (by decide)
      ·
        refine gh_aload_n C dG_commit_156 rfl ?_
        refine gh_aload C dG_commit_157 rfl ?_
        refine gh_callV C [.ref (Y 12 e)] (c_makePath l d _ hA3.X e a he k4 g34 (by omega) (fun i hi h => kl i (by omega) h) (by rw [← q4]; omega) (by rw [← q4]; omega)) lG_141 wG_makePath vG_makePath hA3.1 rfl rfl rfl (Nat.le_of_ble_eq_true rfl) ⟨Nat.le_of_ble_eq_true rfl, Nat.le_of_ble_eq_true rfl⟩ (by (try dsimp only [rr]); omega) (by rw [← q4]; (try dsimp only [rr]); omega) dG_commit_159 (fun v159 g159 h159 => ?_)
        obtain ⟨rfl, hX4, hf4⟩ := h159
        rw [← q4] at hX4
        have hA4 := hA3.of hX4 t4 hf4
        rw [← q5]
        refine gh_goto C 166 dG_commit_162 (by decide) ?_
        refine gh_less C 215 (bud S5 - bud S4) (by (try dsimp only [rr]); omega) (by rw [← q4]; (try dsimp only [rr]); omega) ?_
        exact tail _ _ hA4 (hf3.trans (hf4.weak (fun k h => kMP_kA h)))
    refine gh_aload_n C dG_commit_89 rfl ?_
    refine gh_get C fG_12 hA0.1 rfl dG_commit_90 ?_
    refine gh_callV C [] (c_ruleCount l d _ hA0.2.1 hA0.2.2.2.2.2.2.2.2) lG_119 wS_ruleCount vS_ruleCount hs0 rfl rfl rfl (Nat.le_of_ble_eq_true rfl) ⟨Nat.le_of_ble_eq_true rfl, Nat.le_of_ble_eq_true rfl⟩ (Nat.le_of_ble_eq_true rfl) (Nat.le_of_ble_eq_true rfl) dG_commit_93 (fun v93 g93 h93 => ?_)
    obtain ⟨rfl, rfl⟩ := h93
    rw [g0R]
    refine gh_istore C [some (.ref (Y 1 0)), some (.int (nI m)), some (.int x), some (.ref (Y 8 m)), some (.ref (Y 12 (e - 1))), some (.ref (Y 12 e)), some (.int (nI (sR S))), none, none] dG_commit_96 rfl (Nat.le_of_ble_eq_true rfl) ?_
    refine gh_aload_n C dG_commit_98 rfl ?_
    refine gh_aload C dG_commit_99 rfl ?_
    refine gh_callV C [.ref (Y 12 e)] (c_doRemoves l d _ hA0 e he (by omega) (by omega) (fun i hi h => by rw [g0c 17 (by omega)] at h; rw [g0c 18 (by omega)]; exact k1 i (by omega) h)) lG_122 wG_doRemoves vG_doRemoves hA0.1 rfl rfl rfl (Nat.le_of_ble_eq_true rfl) ⟨Nat.le_of_ble_eq_true rfl, Nat.le_of_ble_eq_true rfl⟩ (Nat.le_of_ble_eq_true rfl) (Nat.le_of_ble_eq_true rfl) dG_commit_101 (fun v101 g101 h101 => ?_)
    obtain ⟨rfl, hA1, hfa⟩ := h101
    rw [← f1] at hA1
    have hw1 := hA1.2.2.2.1.2 e he
    refine gh_aload_n C dG_commit_104 rfl ?_
    refine gh_aload C dG_commit_105 rfl ?_
    refine gh_callV C [.ref (Y 12 e)] (c_doUpdates l d _ hA1 e he (by omega) (fun i hi h => by
      rw [h1c 17 (by decide) (by decide) (by decide), g0c 17 (by omega)] at h
      obtain ⟨b, hb1, hb2, hb3⟩ := k2 i (by omega) h
      refine ⟨b, hb1, ?_, ?_⟩
      · rw [h1c 18 (by decide) (by decide) (by decide), g0c 18 (by omega)]; exact hb2
      · rw [h1c 18 (by decide) (by decide) (by decide), g0c 18 (by omega), h1c 4 (by decide) (by decide) (by decide), g04]; exact hb3)) lG_126 wG_doUpdates vG_doUpdates hA1.1 rfl rfl rfl (Nat.le_of_ble_eq_true rfl) ⟨Nat.le_of_ble_eq_true rfl, Nat.le_of_ble_eq_true rfl⟩ (Nat.le_of_ble_eq_true rfl) (Nat.le_of_ble_eq_true rfl) dG_commit_107 (fun v107 g107 h107 => ?_)
    obtain ⟨rfl, hA2, hfb⟩ := h107
    rw [← f2] at hA2
    have hw2 := hA2.2.2.2.1.2 e he
    refine gh_aload_n C dG_commit_110 rfl ?_
    refine gh_aload C dG_commit_111 rfl ?_
    refine gh_callV C [.ref (Y 12 e)] (c_doAdds l d _ hA2 e he (by omega) (by omega) (fun i hi h => by
      rw [h2c 17 (by decide) (by decide) (by decide) (by decide), g0c 17 (by omega)] at h
      obtain ⟨p, hp1, hp2⟩ := k3 i (by omega) h
      exact ⟨p, by omega, by rw [h2c 18 (by decide) (by decide) (by decide) (by decide), g0c 18 (by omega)]; exact hp2⟩) (fun p hp => by
      rw [h2c 11 (by decide) (by decide) (by decide) (by decide), g0c 11 (by omega)]
      exact kpm p (by omega))) lG_129 wG_doAdds vG_doAdds hA2.1 rfl rfl rfl (Nat.le_of_ble_eq_true rfl) ⟨Nat.le_of_ble_eq_true rfl, Nat.le_of_ble_eq_true rfl⟩ (Nat.le_of_ble_eq_true rfl) (Nat.le_of_ble_eq_true rfl) dG_commit_113 (fun v113 g113 h113 => ?_)
    obtain ⟨rfl, hA3, hfc⟩ := h113
    rw [← f3] at hA3
    have hf1t := ((hf1.trans hfa).trans hfb).trans hfc
    have hw3 := hA3.2.2.2.1.2 e he
    refine gh_iload_n C dG_commit_116 rfl ?_
    refine gh_if_ne C 144 dG_commit_117 (by decide) (fun c117 => ?_) (fun c117 => ?_)
    · refine gh_iconst C 1 dG_commit_144 (by decide) ?_
      refine gh_goto C 149 dG_commit_145 (by decide) ?_
      exact path _ hA3 hf1t (Or.inl c117)
    ·
      refine gh_aload C dG_commit_120 rfl ?_
      refine gh_get C fG_132 hw3.1 rfl dG_commit_122 ?_
      refine gh_if_ne C 144 dG_commit_125 (by decide) (fun c125 => ?_) (fun c125 => ?_)
      · refine gh_iconst C 1 dG_commit_144 (by decide) ?_
        refine gh_goto C 149 dG_commit_145 (by decide) ?_
        exact path _ hA3 hf1t (Or.inr (Or.inl c125))
      ·
        refine gh_aload C dG_commit_128 rfl ?_
        refine gh_get C fG_135 hw3.1 rfl dG_commit_130 ?_
        refine gh_if_ne C 144 dG_commit_133 (by decide) (fun c133 => ?_) (fun c133 => ?_)
        · refine gh_iconst C 1 dG_commit_144 (by decide) ?_
          refine gh_goto C 149 dG_commit_145 (by decide) ?_
          exact path _ hA3 hf1t (Or.inr (Or.inr (Or.inl c133)))
        ·
          refine gh_aload C dG_commit_136 rfl ?_
          refine gh_get C fG_138 hw3.1 rfl dG_commit_138 ?_
          refine gh_if_ne C 148 dG_commit_141 (by decide) (fun c141 => ?_) (fun c141 => ?_)
          ·
            have hcp : ¬ cmp S3 e x := fun h => by
              rcases h with h | h | h | h
              · exact h c117
              · exact h c125
              · exact h c133
              · exact c141 h
            have e4 : cm4 S m x = (S3, 0) := by unfold cm4; rw [← eS3, ← ee, if_neg hcp]
            have q4 : S4 = S3 := by rw [eS4, e4]
            have q5 : y4 = 0 := by rw [ey4, e4]
            refine gh_iconst C 0 dG_commit_148 (by decide) ?_
            refine gh_istore C [some (.ref (Y 1 0)), some (.int (nI m)), some (.int x), some (.ref (Y 8 m)), some (.ref (Y 12 (e - 1))), some (.ref (Y 12 e)), some (.int (nI (sR S))), some (.int 0), none] dG_commit_149 rfl (Nat.le_of_ble_eq_true rfl) ?_
            refine gh_iload C dG_commit_151 rfl ?_
            refine gh_if_eq C 165 dG_commit_153 (by decide) (fun c153 => ?_) (fun c153 => ?_)
            ·
              refine gh_iconst C 0 dG_commit_165 (by decide) ?_
              refine gh_less C 215 (bud S5 - bud S4) (by (try dsimp only [rr]); omega) (by (try dsimp only [rr]); omega) ?_
              rw [← q5]
              exact tail _ _ (by rw [q4]; exact hA3) hf1t
            · exact absurd rfl c153
          · refine gh_iconst C 1 dG_commit_144 (by decide) ?_
            refine gh_goto C 149 dG_commit_145 (by decide) ?_
            exact path _ hA3 hf1t (Or.inr (Or.inr (Or.inr c141)))
  have hwb := hA.2.2.2.1.2 (e - 1) (by omega)
  obtain ⟨⟨qm, hqm, hqm2⟩, hM2⟩ := id hA.2.2.1
  obtain ⟨⟨qe, hqe, hqe2⟩, hE2⟩ := id hA.2.2.2.1
  have hmm := hM2 m hm
  have hAe : cA g Z S e := by rw [ee]; exact hA
  have eE : nI (sE S) = nI e := by rw [ee]
  refine gh_iload_n C dG_commit_0 rfl ?_
  refine gh_callS C [.int (nI m)] (c_isMember l d _ (nI m)) lG_83 wG_isMember sG_isMember rfl rfl (Nat.le_of_ble_eq_true rfl) ⟨Nat.le_of_ble_eq_true rfl, Nat.le_of_ble_eq_true rfl⟩ (Nat.le_of_ble_eq_true rfl) (Nat.le_of_ble_eq_true rfl) dG_commit_1 (fun v1 g1 h1 => ?_)
  obtain ⟨rfl, rfl⟩ := h1
  have hin : inn 16 (nI m) = true := inn_3 (nI_pos (by omega)) (nI_ge hm (by decide))
  rw [if_pos hin]
  refine gh_if_ne C 15 dG_commit_4 (by decide) (fun c4 => ?_) (fun c4 => ?_)
  ·
    refine gh_aload_n C dG_commit_15 rfl ?_
    refine gh_iload_n C dG_commit_16 rfl ?_
    refine gh_callV C [.int (nI m)] (c_isInLatest l d _ hA.1 hA.2.2.1 m hm (by omega)) lG_113 wG_isInLatest vG_isInLatest hA.1 rfl rfl rfl (Nat.le_of_ble_eq_true rfl) ⟨Nat.le_of_ble_eq_true rfl, Nat.le_of_ble_eq_true rfl⟩ (Nat.le_of_ble_eq_true rfl) (Nat.le_of_ble_eq_true rfl) dG_commit_17 (fun v17 g17 h17 => ?_)
    obtain ⟨rfl, rfl⟩ := h17
    rw [if_pos hlat]
    refine gh_if_eq C 32 dG_commit_20 (by decide) (fun c20 => ?_) (fun c20 => ?_)
    · exact absurd c20 (by decide)
    ·
      refine gh_aload_n C dG_commit_23 rfl ?_
      refine gh_get C fG_76 hA.1 rfl dG_commit_24 ?_
      refine gh_bipush C 60 dG_commit_27 (by decide) ?_
      refine gh_icmp_lt C 40 dG_commit_29 (by decide) (fun c29 => ?_) (fun c29 => ?_)
      ·
        refine gh_aload_n C dG_commit_40 rfl ?_
        refine gh_get C fG_18 hA.1 rfl dG_commit_41 ?_
        refine gh_iload_n C dG_commit_44 rfl ?_
        refine gh_aaldN C (m) hqm rfl rfl ⟨hm, by decide⟩ dG_commit_45 ?_
        refine gh_tr (some (Z 8 m)) (hqm2 m hm) ?_
        refine gh_astore_n C [some (.ref (Z 1 0)), some (.int (nI m)), some (.int x), some (.ref (Z 8 m)), none, none, none, none, none] dG_commit_46 rfl (Nat.le_of_ble_eq_true rfl) ?_
        refine gh_aload_n C dG_commit_47 rfl ?_
        refine gh_get C fG_24 hA.1 rfl dG_commit_48 ?_
        refine gh_aload_n C dG_commit_51 rfl ?_
        refine gh_get C fG_76 hA.1 rfl dG_commit_52 ?_
        refine gh_iconst C 1 dG_commit_55 (by decide) ?_
        refine gh_isub C dG_commit_56 ?_
        refine gh_ti (nI (e - 1)) (by rw [eE]; exact pred_n he1) ?_
        refine gh_aaldN C (e - 1) hqe rfl rfl ⟨by omega, by decide⟩ dG_commit_57 ?_
        refine gh_tr (some (Z 12 (e - 1))) (hqe2 (e - 1) (by omega)) ?_
        refine gh_astore C [some (.ref (Z 1 0)), some (.int (nI m)), some (.int x), some (.ref (Z 8 m)), some (.ref (Z 12 (e - 1))), none, none, none, none] dG_commit_58 rfl (Nat.le_of_ble_eq_true rfl) ?_
        refine gh_new C (12, e) zG_22 1419 (101 + (bud S5 - bud S)) (by (try dsimp only [rr]); omega) (by (try dsimp only [rr]); omega) dG_commit_60 (fun w nw => ?_)
        refine gh_dup C dG_commit_63 rfl ?_
        refine gh_aload_n C dG_commit_64 rfl ?_
        refine gh_get C fG_76 ((gh_un (gh_kd (by decide))).trans hA.1) rfl dG_commit_65 ?_
        refine gh_new C (13, e) zG_54 1418 (97 + (bud S5 - bud S)) (by (try dsimp only [rr]); omega) (by (try dsimp only [rr]); omega) dG_commit_68 (fun t nt => ?_)
        refine gh_dup C dG_commit_71 rfl ?_
        refine gh_aload C dG_commit_72 rfl ?_
        refine gh_get C fG_60 ((gh_un (gh_kd (by decide))).trans ((gh_un (gh_kx (by omega))).trans hwb.1)) rfl dG_commit_74 ?_
        refine gh_callI C [.ref (Z 13 (e - 1))] (c_Tree1 l d _ (e := e) (pT_un (pT_un hwb.2 (gh_kd (by decide)) (gh_kd (by decide)) (gh_kd (by decide)) (gh_kd (by decide))) (gh_kx (by omega)) (gh_kd (by decide)) (gh_kd (by decide)) (gh_kd (by decide))) (by omega) gh_us) lG_116 wT_init1 iT_init1 rfl rfl rfl rfl (Nat.le_of_ble_eq_true rfl) ⟨Nat.le_of_ble_eq_true rfl, Nat.le_of_ble_eq_true rfl⟩ (by (try dsimp only [rr]); omega) (by (try dsimp only [rr]); omega) dG_commit_77 (fun v77 g77 h77 => ?_)
        obtain ⟨rfl, ⟨kb, bb, ub, hT1⟩, hfT, hiT⟩ := h77
        refine gh_aload_n C dG_commit_80 rfl ?_
        refine gh_get C fG_110 (hfT.at rfl ((gh_un (gh_kd (by decide))).trans ((gh_un (gh_kd (by decide))).trans hmm.1))) rfl dG_commit_81 ?_
        refine gh_callI C [.int (nI (sE S)), .ref t, .int (S.2.1 1 m)] (c_Epoch l d _ (e := e) (nI (sE S)) (S.2.1 1 m) (hfT.at rfl ((gh_un (gh_kd (by decide))).trans gh_us))) lG_57 wE_init iE_init rfl rfl rfl rfl (Nat.le_of_ble_eq_true rfl) ⟨Nat.le_of_ble_eq_true rfl, Nat.le_of_ble_eq_true rfl⟩ (Nat.le_of_ble_eq_true rfl) (Nat.le_of_ble_eq_true rfl) dG_commit_84 (fun v84 g84 h84 => ?_)
        obtain ⟨rfl, rfl⟩ := h84
        refine gh_astore C [some (.ref (Z 1 0)), some (.int (nI m)), some (.int x), some (.ref (Z 8 m)), some (.ref (Z 12 (e - 1))), some (.ref w), none, none, none] dG_commit_87 rfl (Nat.le_of_ble_eq_true rfl) ?_
        have kne : ∀ (k i j v : Nat), i ≠ v → ((k, i) : gh_K) ≠ (j, v) := fun k i j v h h2 => h (congrArg Prod.snd h2)
        have hA0 := hAe.nw (a := w) (t := t) (ka := kb) (ba := bb) (ua := ub) (lf := S.2.1 1 m) (g2 := gh_u g77 (12, e) (w, .inr (3, [.int (nI (sE S)), .ref t, .int (S.2.1 1 m), .int (-1), .int 0, .int 0, .int 0, .int 0, .int 0]))) ee.symm (fun k hk => by
          have n12 : k ≠ (12, e) := fun h => by rw [h] at hk; simp at hk
          have n13 : k ≠ (13, e) := fun h => by rw [h] at hk; simp at hk
          rw [gh_un n12, hfT k (by simp [kT]; omega), gh_un n13, gh_un n12]) (fun k i h1 h2 h3 => by
          rw [gh_un (kne _ _ _ _ h3)]
          have hT4 := hiT i h3
          have hk5 : k = 12 ∨ k = 13 ∨ k = 14 ∨ k = 15 ∨ k = 16 := by omega
          rcases hk5 with rfl | rfl | rfl | rfl | rfl
          · rw [hfT (12, i) rfl, gh_un (kne _ _ _ _ h3), gh_un (kne _ _ _ _ h3)]
          · rw [hT4.1, gh_un (kne _ _ _ _ h3), gh_un (kne _ _ _ _ h3)]
          · rw [hT4.2.1, gh_un (kne _ _ _ _ h3), gh_un (kne _ _ _ _ h3)]
          · rw [hT4.2.2.1, gh_un (kne _ _ _ _ h3), gh_un (kne _ _ _ _ h3)]
          · rw [hT4.2.2.2, gh_un (kne _ _ _ _ h3), gh_un (kne _ _ _ _ h3)]) (by rw [← eE]; exact gh_us) (pT_un hT1 (gh_kd (by decide)) (gh_kd (by decide)) (gh_kd (by decide)) (gh_kd (by decide)))
        refine gh_less C 1415 (bud S5 - bud S) (by (try dsimp only [rr]); omega) (by (try dsimp only [rr]); omega) ?_
        have hr := rest (zE Z e w t kb bb ub) _ rfl (by rw [f0]; exact hA0) ((((fr.rf.u rfl).u rfl).trans (hfT.weak (fun k h => kT_kA h))).u rfl)
        rw [zE_o Z (show e - 1 ≠ e by omega), show zE Z e w t kb bb ub 12 e = w by simp [zE]] at hr
        exact hr
      · exact absurd (show nI (sE S) < nI 60 from nI_lt (by omega) (by decide)) c29
  · exact absurd c4 (by decide)
