/-! add, remove, update -/
theorem cA.pr {g g1 : gh_H} {Z : ZC} {S : SC} {n : Nat} {k b y : Int32} (h : cA g Z S n) (hG : cG g1 Z (prS S k b y)) (hP : cP g1 Z (prS S k b y)) (hf : fr kP g g1) : cA g1 Z (prS S k b y) n :=
  ⟨hG, h.2.1.fr hf (by decide), h.2.2.1.fr hf (by decide), h.2.2.2.1.fr hf (by decide), h.2.2.2.2.1.fr hf (by decide), hP, h.2.2.2.2.2.2.1.fr hf (by decide), h.2.2.2.2.2.2.2.1.fr hf (by decide), h.2.2.2.2.2.2.2.2⟩
theorem cA.s62 {g : gh_H} {Z : ZC} {S : SC} {n i : Nat} (h : cA g Z S n) (v : Nat × gh_E) : cA (gh_u g (62, i) v) Z S n := h.fq (P := fun k => k == 62) (fr.rf.u rfl) (fun k hk => by simp; omega)
def ukS (S : SC) (m : Nat) (y : Int32) : SC := st2 (stN S 1 m (S.1 1 m + 1)) 1 m (upd (S.2.2 1 m) (S.1 1 m) y)
theorem cA.uk {g : gh_H} {Z : ZC} {S : SC} {n m : Nat} (h : cA g Z S n) (hm : m < 16) (y : Int32) : cA (gh_u (gh_u g (10, m) (Z 10 m, .inl (0, 20, .inl (upd (S.2.2 1 m) (S.1 1 m) y)))) (8, m) (Z 8 m, .inr (2, [.int (S.2.1 0 m), .int (S.2.1 1 m), .int (S.2.1 2 m), .int (S.2.1 3 m), .ref (Z 9 m), .ref (Z 10 m), .int (nI (S.1 1 m + 1))]))) Z (ukS S m y) n := by
  have hf : fr (fun k => k == 8 || k == 10) g (gh_u (gh_u g (10, m) (Z 10 m, .inl (0, 20, .inl (upd (S.2.2 1 m) (S.1 1 m) y)))) (8, m) (Z 8 m, .inr (2, [.int (S.2.1 0 m), .int (S.2.1 1 m), .int (S.2.1 2 m), .int (S.2.1 3 m), .ref (Z 9 m), .ref (Z 10 m), .int (nI (S.1 1 m + 1))]))) := (fr.rf.u rfl).u rfl
  refine ⟨h.1.fr hf (by decide), h.2.1.fr hf (by decide), ?_, h.2.2.2.1.fr hf (by decide), h.2.2.2.2.1.fr hf (by decide), h.2.2.2.2.2.1.fr hf (by decide), h.2.2.2.2.2.2.1.fr hf (by decide), h.2.2.2.2.2.2.2.1.fr hf (by decide), h.2.2.2.2.2.2.2.2⟩
  obtain ⟨⟨q, q1, q2⟩, h3⟩ := h.2.2.1
  refine ⟨⟨q, (gh_un (gh_kd (by decide))).trans ((gh_un (gh_kd (by decide))).trans q1), q2⟩, fun k hk => ?_⟩
  have h4 := h3 k hk
  by_cases hkm : k = m
  · subst hkm
    refine ⟨?_, (gh_un (gh_kd (by decide))).trans ((gh_un (gh_kd (by decide))).trans h4.2.1), ?_⟩
    · rw [show (ukS S k y).1 1 k = S.1 1 k + 1 by simp [ukS, st2, stN]]; exact gh_us
    · rw [show (ukS S k y).2.2 1 k = upd (S.2.2 1 k) (S.1 1 k) y by simp [ukS, st2, stN]]; exact (gh_un (gh_kd (by decide))).trans gh_us
  · refine ⟨?_, (gh_un (gh_kd (by decide))).trans ((gh_un (gh_kd (by decide))).trans h4.2.1), ?_⟩
    · rw [show (ukS S m y).1 1 k = S.1 1 k by simp [ukS, st2, stN, hkm]]; exact (gh_un (gh_kx hkm)).trans ((gh_un (gh_kd (by decide))).trans h4.1)
    · rw [show (ukS S m y).2.2 1 k = S.2.2 1 k by simp [ukS, st2, stN, hkm]]; exact (gh_un (gh_kd (by decide))).trans ((gh_un (gh_kx hkm)).trans h4.2.2)
theorem lat_m {S : SC} {m : Nat} (h : lat S m = true) (hq : sQ S < 20) : mayp S m = true := by simp [mayp, h, hq]
set_option maxRecDepth 100000 in
set_option maxHeartbeats 4000000 in
theorem c_add (l : Launch) (d : gh_D) (g : gh_H) {Z : ZC} {S : SC} {n : Nat} (hA : cA g Z S n) (m : Nat) (y : Int32) (hm : m < 16) (hy : inn (sP S) y = true) (hP60 : sP S ≤ 60) (hE1 : 1 ≤ sE S) (hlat : lat S m = true) (hQ20 : sQ S < 20) : gh_C l d mG_add (rr 2 1 3) [.ref (Z 1 0), .int (nI m), .int y] g (fun v g1 => v = some (.int (nI (sQ S + 1))) ∧ cA g1 Z (prS S 0 y (-1)) n ∧ fr kA g g1) := by
  refine gh_of [some (.ref (Z 1 0)), some (.int (nI m)), some (.int y)] (by decide) rfl (Nat.le_of_ble_eq_true rfl) (by simp [Value.category]) (fun z C hQ => ?_)
  show gh_W l d z 0 [some (.ref (Z 1 0)), some (.int (nI m)), some (.int y)] [] g 1 3
  obtain ⟨j, hj, hyj⟩ := inn_of (n := sP S) (by omega) hy
  refine gh_iload_n C dG_add_0 rfl ?_
  refine gh_callS C [.int (nI m)] (c_isMember l d _ (nI m)) lG_83 wG_isMember sG_isMember rfl rfl (Nat.le_of_ble_eq_true rfl) ⟨Nat.le_of_ble_eq_true rfl, Nat.le_of_ble_eq_true rfl⟩ (Nat.le_of_ble_eq_true rfl) (Nat.le_of_ble_eq_true rfl) dG_add_1 (fun v1 g1 h1 => ?_)
  obtain ⟨rfl, hg1⟩ := h1
  subst g1
  rw [if_pos (inn_n hm (by decide))]
  refine gh_if_eq C 19 dG_add_4 (by decide) (fun c4 => ?_) (fun c4 => ?_)
  · exact absurd c4 (by decide)
  ·
    refine gh_iload_n C dG_add_7 rfl ?_
    refine gh_if_lt C 19 dG_add_8 (by decide) (fun c8 => ?_) (fun c8 => ?_)
    · exact absurd c8 (by rw [hyj]; exact nI_pos (by omega))
    ·
      refine gh_iload_n C dG_add_11 rfl ?_
      refine gh_aload_n C dG_add_12 rfl ?_
      refine gh_get C fG_90 hA.1 rfl dG_add_13 ?_
      refine gh_icmp_lt C 27 dG_add_16 (by decide) (fun c16 => ?_) (fun c16 => ?_)
      ·
        refine gh_aload_n C dG_add_27 rfl ?_
        refine gh_iload_n C dG_add_28 rfl ?_
        refine gh_callV C [.int (nI m)] (c_mayPropose l d _ hA.1 hA.2.2.1 m hm hE1 (by omega)) lG_98 wG_mayPropose vG_mayPropose hA.1 rfl rfl rfl (Nat.le_of_ble_eq_true rfl) ⟨Nat.le_of_ble_eq_true rfl, Nat.le_of_ble_eq_true rfl⟩ (Nat.le_of_ble_eq_true rfl) (Nat.le_of_ble_eq_true rfl) dG_add_29 (fun v29 g29 h29 => ?_)
        obtain ⟨rfl, hg29⟩ := h29
        subst g29
        rw [if_pos (lat_m hlat hQ20)]
        refine gh_if_ne C 43 dG_add_32 (by decide) (fun c32 => ?_) (fun c32 => ?_)
        ·
          refine gh_aload_n C dG_add_43 rfl ?_
          refine gh_new C (62, 0) zG_34 0 0 (by (try dsimp only [rr]); omega) (by (try dsimp only [rr]); omega) dG_add_44 (fun w nw => ?_)
          refine gh_dup C dG_add_47 rfl ?_
          refine gh_iconst C 0 dG_add_48 (by decide) ?_
          refine gh_iload_n C dG_add_49 rfl ?_
          refine gh_iconst C (-1) dG_add_50 (by decide) ?_
          refine gh_callI C [.int 0, .int y, .int (-1)] (c_Proposal l d _ (p := 0) 0 y (-1) gh_us) lG_101 wP_init iP_init rfl rfl rfl rfl (Nat.le_of_ble_eq_true rfl) ⟨Nat.le_of_ble_eq_true rfl, Nat.le_of_ble_eq_true rfl⟩ (Nat.le_of_ble_eq_true rfl) (Nat.le_of_ble_eq_true rfl) dG_add_51 (fun v51 g51 h51 => ?_)
          obtain ⟨rfl, rfl⟩ := h51
          have hA1 := (hA.s62 (i := 0) (w, .inr (6, [.int 0, .int 0, .int 0]))).s62 (i := 0) (w, .inr (6, [.int 0, .int y, .int (-1)]))
          refine gh_callV C [.ref w] (c_propose l d _ hA1.1 hA1.2.2.2.2.2.1 hQ20 0 y (-1) gh_us) lG_102 wG_propose vG_propose hA1.1 rfl rfl rfl (Nat.le_of_ble_eq_true rfl) ⟨Nat.le_of_ble_eq_true rfl, Nat.le_of_ble_eq_true rfl⟩ (Nat.le_of_ble_eq_true rfl) (Nat.le_of_ble_eq_true rfl) dG_add_54 (fun v54 g54 h54 => ?_)
          obtain ⟨rfl, hG2, hP2, hf2⟩ := h54
          refine gh_iret C hQ rfl dG_add_57 ?_
          exact ⟨rfl, hA1.pr hG2 hP2 hf2, ((fr.rf.u rfl).u rfl).trans (hf2.weak (fun k h => kP_kA h))⟩
        · exact absurd c32 (by decide)
      · exact absurd (show y < nI (sP S) by rw [hyj]; exact nI_lt hj (by omega)) c16
set_option maxRecDepth 100000 in
set_option maxHeartbeats 4000000 in
theorem c_remove (l : Launch) (d : gh_D) (g : gh_H) {Z : ZC} {S : SC} {n : Nat} (hA : cA g Z S n) (m : Nat) (y : Int32) (hm : m < 16) (hy : inn (16) y = true) (hP60 : sP S ≤ 60) (hE1 : 1 ≤ sE S) (hlat : lat S m = true) (hQ20 : sQ S < 20) : gh_C l d mG_remove (rr 2 1 3) [.ref (Z 1 0), .int (nI m), .int y] g (fun v g1 => v = some (.int (nI (sQ S + 1))) ∧ cA g1 Z (prS S 1 y (-1)) n ∧ fr kA g g1) := by
  refine gh_of [some (.ref (Z 1 0)), some (.int (nI m)), some (.int y)] (by decide) rfl (Nat.le_of_ble_eq_true rfl) (by simp [Value.category]) (fun z C hQ => ?_)
  show gh_W l d z 0 [some (.ref (Z 1 0)), some (.int (nI m)), some (.int y)] [] g 1 3
  obtain ⟨j, hj, hyj⟩ := inn_of (n := 16) (by omega) hy
  refine gh_iload_n C dG_remove_0 rfl ?_
  refine gh_callS C [.int (nI m)] (c_isMember l d _ (nI m)) lG_83 wG_isMember sG_isMember rfl rfl (Nat.le_of_ble_eq_true rfl) ⟨Nat.le_of_ble_eq_true rfl, Nat.le_of_ble_eq_true rfl⟩ (Nat.le_of_ble_eq_true rfl) (Nat.le_of_ble_eq_true rfl) dG_remove_1 (fun v1 g1 h1 => ?_)
  obtain ⟨rfl, hg1⟩ := h1
  subst g1
  rw [if_pos (inn_n hm (by decide))]
  refine gh_if_eq C 17 dG_remove_4 (by decide) (fun c4 => ?_) (fun c4 => ?_)
  · exact absurd c4 (by decide)
  ·
    refine gh_iload_n C dG_remove_7 rfl ?_
    refine gh_if_lt C 17 dG_remove_8 (by decide) (fun c8 => ?_) (fun c8 => ?_)
    · exact absurd c8 (by rw [hyj]; exact nI_pos (by omega))
    ·
      refine gh_iload_n C dG_remove_11 rfl ?_
      refine gh_bipush C 16 dG_remove_12 (by decide) ?_
      refine gh_icmp_lt C 25 dG_remove_14 (by decide) (fun c14 => ?_) (fun c14 => ?_)
      ·
        refine gh_aload_n C dG_remove_25 rfl ?_
        refine gh_iload_n C dG_remove_26 rfl ?_
        refine gh_callV C [.int (nI m)] (c_mayPropose l d _ hA.1 hA.2.2.1 m hm hE1 (by omega)) lG_98 wG_mayPropose vG_mayPropose hA.1 rfl rfl rfl (Nat.le_of_ble_eq_true rfl) ⟨Nat.le_of_ble_eq_true rfl, Nat.le_of_ble_eq_true rfl⟩ (Nat.le_of_ble_eq_true rfl) (Nat.le_of_ble_eq_true rfl) dG_remove_27 (fun v27 g27 h27 => ?_)
        obtain ⟨rfl, hg27⟩ := h27
        subst g27
        rw [if_pos (lat_m hlat hQ20)]
        refine gh_if_ne C 41 dG_remove_30 (by decide) (fun c30 => ?_) (fun c30 => ?_)
        ·
          refine gh_aload_n C dG_remove_41 rfl ?_
          refine gh_new C (62, 0) zG_34 0 0 (by (try dsimp only [rr]); omega) (by (try dsimp only [rr]); omega) dG_remove_42 (fun w nw => ?_)
          refine gh_dup C dG_remove_45 rfl ?_
          refine gh_iconst C 1 dG_remove_46 (by decide) ?_
          refine gh_iload_n C dG_remove_47 rfl ?_
          refine gh_iconst C (-1) dG_remove_48 (by decide) ?_
          refine gh_callI C [.int 1, .int y, .int (-1)] (c_Proposal l d _ (p := 0) 1 y (-1) gh_us) lG_101 wP_init iP_init rfl rfl rfl rfl (Nat.le_of_ble_eq_true rfl) ⟨Nat.le_of_ble_eq_true rfl, Nat.le_of_ble_eq_true rfl⟩ (Nat.le_of_ble_eq_true rfl) (Nat.le_of_ble_eq_true rfl) dG_remove_49 (fun v49 g49 h49 => ?_)
          obtain ⟨rfl, rfl⟩ := h49
          have hA1 := (hA.s62 (i := 0) (w, .inr (6, [.int 0, .int 0, .int 0]))).s62 (i := 0) (w, .inr (6, [.int 1, .int y, .int (-1)]))
          refine gh_callV C [.ref w] (c_propose l d _ hA1.1 hA1.2.2.2.2.2.1 hQ20 1 y (-1) gh_us) lG_102 wG_propose vG_propose hA1.1 rfl rfl rfl (Nat.le_of_ble_eq_true rfl) ⟨Nat.le_of_ble_eq_true rfl, Nat.le_of_ble_eq_true rfl⟩ (Nat.le_of_ble_eq_true rfl) (Nat.le_of_ble_eq_true rfl) dG_remove_52 (fun v52 g52 h52 => ?_)
          obtain ⟨rfl, hG2, hP2, hf2⟩ := h52
          refine gh_iret C hQ rfl dG_remove_55 ?_
          exact ⟨rfl, hA1.pr hG2 hP2 hf2, ((fr.rf.u rfl).u rfl).trans (hf2.weak (fun k h => kP_kA h))⟩
        · exact absurd c30 (by decide)
      · exact absurd (show y < nI (16) by rw [hyj]; exact nI_lt hj (by omega)) c14
def updS (S : SC) (m : Nat) : SC := prS (ukS (frS S) m (nI (sN S))) 2 (S.2.1 1 m) (nI (sN S))
set_option maxRecDepth 100000 in
set_option maxHeartbeats 4000000 in
theorem c_update (l : Launch) (d : gh_D) (g : gh_H) {Z : ZC} {S : SC} {n : Nat} (hA : cA g Z S n) (m : Nat) (hm : m < 16) (hE1 : 1 ≤ sE S) (hlat : lat S m = true) (hQ20 : sQ S < 20) (hu : S.1 1 m < 20) (hN : sN S < 4096) : gh_C l d mG_update (rr 4 2 (3 + (bud (frS S) - bud S))) [.ref (Z 1 0), .int (nI m)] g (fun v g1 => v = some (.int (nI (sQ S + 1))) ∧ cA g1 Z (updS S m) n ∧ fr kA g g1) := by
  refine gh_of [some (.ref (Z 1 0)), some (.int (nI m)), none, none] (by decide) rfl (Nat.le_of_ble_eq_true rfl) (by simp [Value.category]) (fun z C hQ => ?_)
  show gh_W l d z 0 [some (.ref (Z 1 0)), some (.int (nI m)), none, none] [] g 2 (3 + (bud (frS S) - bud S))
  obtain ⟨ao0, x0, y0, w0, hs0, hsb0, hsc0, hsd0, hse0⟩ := id hA.2.1
  obtain ⟨⟨qm, hqm, hqm2⟩, hM2⟩ := id hA.2.2.1
  have b1 := bud_fr S
  have hmm := hM2 m hm
  refine gh_iload_n C dG_update_0 rfl ?_
  refine gh_callS C [.int (nI m)] (c_isMember l d _ (nI m)) lG_83 wG_isMember sG_isMember rfl rfl (Nat.le_of_ble_eq_true rfl) ⟨Nat.le_of_ble_eq_true rfl, Nat.le_of_ble_eq_true rfl⟩ (Nat.le_of_ble_eq_true rfl) (Nat.le_of_ble_eq_true rfl) dG_update_1 (fun v1 g1 h1 => ?_)
  obtain ⟨rfl, hg1⟩ := h1
  subst g1
  rw [if_pos (inn_n hm (by decide))]
  refine gh_if_ne C 15 dG_update_4 (by decide) (fun c4 => ?_) (fun c4 => ?_)
  ·
    refine gh_aload_n C dG_update_15 rfl ?_
    refine gh_iload_n C dG_update_16 rfl ?_
    refine gh_callV C [.int (nI m)] (c_mayPropose l d _ hA.1 hA.2.2.1 m hm hE1 (by omega)) lG_98 wG_mayPropose vG_mayPropose hA.1 rfl rfl rfl (Nat.le_of_ble_eq_true rfl) ⟨Nat.le_of_ble_eq_true rfl, Nat.le_of_ble_eq_true rfl⟩ (Nat.le_of_ble_eq_true rfl) (Nat.le_of_ble_eq_true rfl) dG_update_17 (fun v17 g17 h17 => ?_)
    obtain ⟨rfl, hg17⟩ := h17
    subst g17
    rw [if_pos (lat_m hlat hQ20)]
    refine gh_if_ne C 31 dG_update_20 (by decide) (fun c20 => ?_) (fun c20 => ?_)
    ·
      refine gh_aload_n C dG_update_31 rfl ?_
      refine gh_get C fG_18 hA.1 rfl dG_update_32 ?_
      refine gh_iload_n C dG_update_35 rfl ?_
      refine gh_aaldN C (m) hqm rfl rfl ⟨hm, by decide⟩ dG_update_36 ?_
      refine gh_tr (some (Z 8 m)) (hqm2 m hm) ?_
      refine gh_astore_n C [some (.ref (Z 1 0)), some (.int (nI m)), some (.ref (Z 8 m)), none] dG_update_37 rfl (Nat.le_of_ble_eq_true rfl) ?_
      refine gh_aload_n C dG_update_38 rfl ?_
      refine gh_get C fG_12 hA.1 rfl dG_update_39 ?_
      refine gh_callV C [] (c_fresh l d _ hA.2.1 hA.2.2.2.2.2.2.2.2 hN) lG_64 wS_fresh vS_fresh hs0 rfl rfl rfl (Nat.le_of_ble_eq_true rfl) ⟨Nat.le_of_ble_eq_true rfl, Nat.le_of_ble_eq_true rfl⟩ (by (try dsimp only [rr]); omega) (by (try dsimp only [rr]); omega) dG_update_42 (fun v42 g42 h42 => ?_)
      obtain ⟨rfl, hp1, hf1⟩ := h42
      have hA1 := hA.fs hN hp1 hf1
      have hm1 := hA1.2.2.1.2 m hm
      refine gh_istore_n C [some (.ref (Z 1 0)), some (.int (nI m)), some (.ref (Z 8 m)), some (.int (nI (sN S)))] dG_update_45 rfl (Nat.le_of_ble_eq_true rfl) ?_
      refine gh_aload_n C dG_update_46 rfl ?_
      refine gh_iload_n C dG_update_47 rfl ?_
      refine gh_callV C [.int (nI (sN S))] (c_keepUpdate l d _ hm1 (nI (sN S)) hu) lG_106 wB_keepUpdate vB_keepUpdate hm1.1 rfl rfl rfl (Nat.le_of_ble_eq_true rfl) ⟨Nat.le_of_ble_eq_true rfl, Nat.le_of_ble_eq_true rfl⟩ (Nat.le_of_ble_eq_true rfl) (Nat.le_of_ble_eq_true rfl) dG_update_48 (fun v48 g48 h48 => ?_)
      obtain ⟨rfl, rfl⟩ := h48
      have hA2 := hA1.uk hm (nI (sN S))
      have hm2 := hA2.2.2.1.2 m hm
      refine gh_aload_n C dG_update_51 rfl ?_
      refine gh_new C (62, 0) zG_34 0 0 (by (try dsimp only [rr]); omega) (by (try dsimp only [rr]); omega) dG_update_52 (fun w nw => ?_)
      refine gh_dup C dG_update_55 rfl ?_
      refine gh_iconst C 2 dG_update_56 (by decide) ?_
      refine gh_aload_n C dG_update_57 rfl ?_
      refine gh_get C fG_110 ((gh_un (gh_kd (by decide))).trans hm2.1) rfl dG_update_58 ?_
      refine gh_iload_n C dG_update_61 rfl ?_
      refine gh_callI C [.int 2, .int ((ukS (frS S) m (nI (sN S))).2.1 1 m), .int (nI (sN S))] (c_Proposal l d _ (p := 0) 2 (S.2.1 1 m) (nI (sN S)) gh_us) lG_101 wP_init iP_init rfl rfl rfl rfl (Nat.le_of_ble_eq_true rfl) ⟨Nat.le_of_ble_eq_true rfl, Nat.le_of_ble_eq_true rfl⟩ (Nat.le_of_ble_eq_true rfl) (Nat.le_of_ble_eq_true rfl) dG_update_62 (fun v62 g62 h62 => ?_)
      obtain ⟨rfl, rfl⟩ := h62
      have hA3 := (hA2.s62 (i := 0) (w, .inr (6, [.int 0, .int 0, .int 0]))).s62 (i := 0) (w, .inr (6, [.int 2, .int (S.2.1 1 m), .int (nI (sN S))]))
      refine gh_callV C [.ref w] (c_propose l d _ hA3.1 hA3.2.2.2.2.2.1 hQ20 2 (S.2.1 1 m) (nI (sN S)) gh_us) lG_102 wG_propose vG_propose hA3.1 rfl rfl rfl (Nat.le_of_ble_eq_true rfl) ⟨Nat.le_of_ble_eq_true rfl, Nat.le_of_ble_eq_true rfl⟩ (Nat.le_of_ble_eq_true rfl) (Nat.le_of_ble_eq_true rfl) dG_update_65 (fun v65 g65 h65 => ?_)
      obtain ⟨rfl, hG4, hP4, hf4⟩ := h65
      refine gh_iret C hQ rfl dG_update_68 ?_
      exact ⟨rfl, hA3.pr hG4 hP4 hf4, (((((hf1.weak (fun k h => kS_kA h)).u rfl).u rfl).u rfl).u rfl).trans (hf4.weak (fun k h => kP_kA h))⟩
    · exact absurd c20 (by decide)
  · exact absurd c4 (by decide)
