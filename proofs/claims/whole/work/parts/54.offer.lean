/-! the calls that go: offer, add, remove, update, come, compromise -/
theorem inn_n {n m : Nat} (h : m < n) (hn : n < 2 ^ 31) : inn n (nI m) = true := inn_3 (nI_pos (by omega)) (nI_ge h hn)
def zK (Z : ZC) (p a : Nat) : ZC := fun k i => if k = 18 ∧ i = p then a else Z k i
theorem zK_k (Z : ZC) {p a k : Nat} (h : k ≠ 18) (i : Nat) : zK Z p a k i = Z k i := by simp [zK, h]
def ofS (S : SC) (m : Nat) : SC := stN (st1 (st1 (st1 (st1 (st1 (st1 (frS (frS S)) 11 (sP S) (nI m)) 12 (sP S) (nI (sN S))) 13 (sP S) (nI (sN S + 1))) 14 (sP S) (-1)) 15 (sP S) (-1)) 16 (sP S) 0) 0 1 (sP S + 1)
theorem cA.zk {g : gh_H} {Z : ZC} {S : SC} {n a : Nat} {qk : Nat → Option Nat} (h : cA g Z S n) (hq : g (17, 0) = some (Z 17 0, .inl (6, 60, .inr (.inr (.inr (.inr qk)))))) (hq2 : ∀ p, p < sP S → qk p = some (Z 18 p)) (T : SC)
    (h0 : T.1 = S.1) (h1 : ∀ c, c < 11 ∨ 16 < c → T.2.1 c = S.2.1 c) (hi : ∀ c i, i ≠ sP S → T.2.1 c i = S.2.1 c i) (h2 : T.2.2 = S.2.2) :
    cA (gh_u (gh_u (gh_u g (18, sP S) (a, .inr (5, [.int (T.2.1 11 (sP S)), .int (T.2.1 12 (sP S)), .int (T.2.1 13 (sP S)), .int (T.2.1 14 (sP S)), .int (T.2.1 15 (sP S)), .int (T.2.1 16 (sP S))]))) (17, 0) (Z 17 0, .inl (6, 60, .inr (.inr (.inr (.inr (va_up qk (sP S) (some a)))))))) (1, 0) (Z 1 0, .inr (0, [.ref (Z 2 0), .ref (Z 7 0), .ref (Z 11 0), .int (nI (sE S)), .ref (Z 17 0), .int (nI (sP S + 1)), .ref (Z 19 0), .int (nI (sQ S)), .ref (Z 21 0), .ref (Z 22 0)]))) (zK Z (sP S) a) (stN T 0 1 (sP S + 1)) n := by
  have hA1 := h.pk (S1 := T) (p := sP S) h0 h2 h1 hi
  have hf : fr (fun k => k == 1 || k == 17 || k == 18) g (gh_u (gh_u (gh_u g (18, sP S) (a, .inr (5, [.int (T.2.1 11 (sP S)), .int (T.2.1 12 (sP S)), .int (T.2.1 13 (sP S)), .int (T.2.1 14 (sP S)), .int (T.2.1 15 (sP S)), .int (T.2.1 16 (sP S))]))) (17, 0) (Z 17 0, .inl (6, 60, .inr (.inr (.inr (.inr (va_up qk (sP S) (some a)))))))) (1, 0) (Z 1 0, .inr (0, [.ref (Z 2 0), .ref (Z 7 0), .ref (Z 11 0), .int (nI (sE S)), .ref (Z 17 0), .int (nI (sP S + 1)), .ref (Z 19 0), .int (nI (sQ S)), .ref (Z 21 0), .ref (Z 22 0)]))) := ((fr.rf.u rfl).u rfl).u rfl
  have hn0 : (stN T 0 1 (sP S + 1)).1 0 0 = sE S := by simp [stN, h0]
  have hn2 : (stN T 0 1 (sP S + 1)).1 0 2 = sQ S := by simp [stN, h0]
  have hn3 : (stN T 0 1 (sP S + 1)).1 0 3 = sN S := by simp [stN, h0]
  have hn4 : (stN T 0 1 (sP S + 1)).1 0 4 = sR S := by simp [stN, h0]
  have hn1 : (stN T 0 1 (sP S + 1)).1 0 1 = sP S + 1 := by simp [stN]
  have ha : ∀ c, c < 11 ∨ 16 < c → (stN T 0 1 (sP S + 1)).2.1 c = S.2.1 c := h1
  have h22 : (stN T 0 1 (sP S + 1)).2.2 = S.2.2 := h2
  have h11 : (stN T 0 1 (sP S + 1)).1 1 = S.1 1 := by funext b; simp [stN, h0]
  have h12 : (stN T 0 1 (sP S + 1)).1 2 = S.1 2 := by funext b; simp [stN, h0]
  refine ⟨?_, ?_, ?_, ?_, ⟨⟨va_up qk (sP S) (some a), (gh_un (gh_kd (by decide))).trans gh_us, fun p hp => ?_⟩, fun p hp => ?_⟩, ?_, ?_, ?_, ?_⟩
  · unfold cG sE sP sQ
    rw [hn0, hn1, hn2]; exact gh_us
  · have := h.2.1.fr hf (by decide)
    unfold cS sN sR at this ⊢
    rw [hn3, hn4, ha 21 (by omega), ha 22 (by omega), ha 23 (by omega), ha 24 (by omega)]; exact this
  · obtain ⟨q1, q2⟩ := h.2.2.1.fr hf (by decide)
    refine ⟨q1, fun m hm => ?_⟩
    have := q2 m hm
    unfold cM1 at this ⊢
    rw [h11, h22, ha 0 (by omega), ha 1 (by omega), ha 2 (by omega), ha 3 (by omega)]; exact this
  · obtain ⟨⟨q, q1, q2⟩, h3⟩ := h.2.2.2.1.fr hf (by decide)
    refine ⟨⟨q, q1, by unfold sE; rw [hn0]; exact q2⟩, fun i hi => ?_⟩
    have := h3 i hi
    unfold cE1 at this ⊢
    rw [h12, h22, ha 4 (by omega), ha 5 (by omega), ha 6 (by omega), ha 7 (by omega), ha 8 (by omega), ha 9 (by omega), ha 10 (by omega)]; exact this
  · have hp : p < sP S + 1 := by unfold sP at hp; rw [hn1] at hp; exact hp
    by_cases hpe : p = sP S
    · rw [hpe]; simp [va_up, zK]
    · simp [va_up, zK, hpe]; exact hq2 p (by omega)
  · have hp : p < sP S + 1 := by unfold sP at hp; rw [hn1] at hp; exact hp
    by_cases hpe : p = sP S
    · rw [hpe]
      show _ = some (zK Z (sP S) a 18 (sP S), _)
      rw [show zK Z (sP S) a 18 (sP S) = a by simp [zK]]
      exact (gh_un (gh_kd (by decide))).trans ((gh_un (gh_kd (by decide))).trans gh_us)
    · show _ = some (zK Z (sP S) a 18 p, _)
      rw [show zK Z (sP S) a 18 p = Z 18 p by simp [zK, hpe]]
      have := h.2.2.2.2.1.2 p (by omega)
      unfold cK1 at this
      rw [show (stN T 0 1 (sP S + 1)).2.1 = T.2.1 from rfl, hi 11 p hpe, hi 12 p hpe, hi 13 p hpe, hi 14 p hpe, hi 15 p hpe, hi 16 p hpe]
      exact (gh_un (gh_kd (by decide))).trans ((gh_un (gh_kd (by decide))).trans ((gh_un (gh_kx hpe)).trans this))
  · obtain ⟨q, y, q1, q2⟩ := h.2.2.2.2.2.1.fr hf (by decide)
    refine ⟨q, y, q1, ?_⟩
    unfold sQ
    rw [hn2, ha 17 (by omega), ha 18 (by omega), ha 19 (by omega)]; exact q2
  · have := h.2.2.2.2.2.2.1.fr hf (by decide)
    unfold cO at this ⊢
    rw [ha 20 (by omega)]; exact this
  · exact h.2.2.2.2.2.2.2.1.fr hf (by decide)
  · have := h.2.2.2.2.2.2.2.2
    unfold okC sN sR at this ⊢
    rw [hn3, hn4, ha 21 (by omega), ha 22 (by omega), ha 23 (by omega), ha 24 (by omega)]; exact this
theorem cA.k18 {g : gh_H} {Z : ZC} {S : SC} {n : Nat} (h : cA g Z S n) (v : Nat × gh_E) : cA (gh_u g (18, sP S) v) Z S n := by
  have hf : fr (fun k => k == 18) g (gh_u g (18, sP S) v) := fr.rf.u rfl
  refine ⟨h.1.fr hf (by decide), h.2.1.fr hf (by decide), h.2.2.1.fr hf (by decide), h.2.2.2.1.fr hf (by decide), ?_, h.2.2.2.2.2.1.fr hf (by decide), h.2.2.2.2.2.2.1.fr hf (by decide), h.2.2.2.2.2.2.2.1.fr hf (by decide), h.2.2.2.2.2.2.2.2⟩
  obtain ⟨⟨q, q1, q2⟩, h3⟩ := h.2.2.2.2.1
  exact ⟨⟨q, (gh_un (gh_kd (by decide))).trans q1, q2⟩, fun p hp => (gh_un (gh_kx (Nat.ne_of_lt hp))).trans (h3 p hp)⟩
theorem cA.fs {g g1 : gh_H} {Z : ZC} {S : SC} {n : Nat} (h : cA g Z S n) (hn : sN S < 4096) (hp : pS g1 (Z 2 0) (sN S + 1) (sR S) (S.2.1 21) (S.2.1 22) (S.2.1 23) (S.2.1 24)) (hf : fr kS g g1) : cA g1 Z (frS S) n :=
  h.of (h.X.fresh hn hp hf) (tq_fr S) (hf.weak (fun k h => kS_kMP h))
set_option maxRecDepth 100000 in
set_option maxHeartbeats 4000000 in
theorem c_offer (l : Launch) (d : gh_D) (g : gh_H) {Z : ZC} {S : SC} {n : Nat} (hA : cA g Z S n) (m : Nat) (hm : m < 16) (hP60 : sP S < 60) (hN : sN S + 2 ≤ 4096) : gh_C l d mG_offer (rr 4 3 (6 + (bud (ofS S m) - bud S))) [.ref (Z 1 0), .int (nI m)] g (fun v g1 => v = some (.int (nI (sP S))) ∧ ∃ Z1 : ZC, Z1 1 0 = Z 1 0 ∧ cA g1 Z1 (ofS S m) n ∧ fr kA g g1) := by
  refine gh_of [some (.ref (Z 1 0)), some (.int (nI m)), none] (by decide) rfl (Nat.le_of_ble_eq_true rfl) (by simp [Value.category]) (fun z C hQ => ?_)
  show gh_W l d z 0 [some (.ref (Z 1 0)), some (.int (nI m)), none] [] g 3 (6 + (bud (ofS S m) - bud S))
  obtain ⟨ao0, x0, y0, w0, hs0, hsb0, hsc0, hsd0, hse0⟩ := id hA.2.1
  have b1 := bud_fr S
  have b2 := bud_fr (frS S)
  have b3 : bud (ofS S m) = bud (frS (frS S)) := rfl
  have m1 := bud_m (tq_fr S)
  have m2 := bud_m (tq_fr (frS S))
  have s1 : sN (frS S) = sN S + 1 := rfl
  refine gh_iload_n C dG_offer_0 rfl ?_
  refine gh_callS C [.int (nI m)] (c_isMember l d _ (nI m)) lG_83 wG_isMember sG_isMember rfl rfl (Nat.le_of_ble_eq_true rfl) ⟨Nat.le_of_ble_eq_true rfl, Nat.le_of_ble_eq_true rfl⟩ (Nat.le_of_ble_eq_true rfl) (Nat.le_of_ble_eq_true rfl) dG_offer_1 (fun v1 g1 h1 => ?_)
  obtain ⟨rfl, hg1⟩ := h1
  subst g1
  rw [if_pos (inn_n hm (by decide))]
  refine gh_if_ne C 15 dG_offer_4 (by decide) (fun c4 => ?_) (fun c4 => ?_)
  ·
    refine gh_aload_n C dG_offer_15 rfl ?_
    refine gh_get C fG_90 hA.1 rfl dG_offer_16 ?_
    refine gh_bipush C 60 dG_offer_19 (by decide) ?_
    refine gh_icmp_lt C 32 dG_offer_21 (by decide) (fun c21 => ?_) (fun c21 => ?_)
    ·
      refine gh_aload_n C dG_offer_32 rfl ?_
      refine gh_get C fG_12 hA.1 rfl dG_offer_33 ?_
      refine gh_callV C [] (c_fresh l d _ hA.2.1 hA.2.2.2.2.2.2.2.2 (by omega)) lG_64 wS_fresh vS_fresh hs0 rfl rfl rfl (Nat.le_of_ble_eq_true rfl) ⟨Nat.le_of_ble_eq_true rfl, Nat.le_of_ble_eq_true rfl⟩ (by (try dsimp only [rr]); omega) (by (try dsimp only [rr]); omega) dG_offer_36 (fun v36 g36 h36 => ?_)
      obtain ⟨rfl, hp1, hf1⟩ := h36
      have hA1 := hA.fs (by omega) hp1 hf1
      obtain ⟨ao1, x1, y1, w1, hs1, hsb1, hsc1, hsd1, hse1⟩ := id hA1.2.1
      obtain ⟨⟨qk, hqk, hqk2⟩, hK2⟩ := id hA1.2.2.2.2.1
      refine gh_istore_n C [some (.ref (Z 1 0)), some (.int (nI m)), some (.int (nI (sN S)))] dG_offer_39 rfl (Nat.le_of_ble_eq_true rfl) ?_
      refine gh_aload_n C dG_offer_40 rfl ?_
      refine gh_get C fG_30 hA1.1 rfl dG_offer_41 ?_
      refine gh_aload_n C dG_offer_44 rfl ?_
      refine gh_get C fG_90 hA1.1 rfl dG_offer_45 ?_
      refine gh_new C (18, sP S) zG_28 1 (bud (frS (frS S)) - bud (frS S)) (by (try dsimp only [rr]); omega) (by (try dsimp only [rr]); omega) dG_offer_48 (fun w nw => ?_)
      refine gh_dup C dG_offer_51 rfl ?_
      refine gh_iload_n C dG_offer_52 rfl ?_
      refine gh_iload_n C dG_offer_53 rfl ?_
      refine gh_aload_n C dG_offer_54 rfl ?_
      refine gh_get C fG_12 ((gh_un (gh_kd (by decide))).trans hA1.1) rfl dG_offer_55 ?_
      have hA2 := hA1.k18 (w, .inr (5, [.int 0, .int 0, .int 0, .int 0, .int 0, .int 0]))
      obtain ⟨ao2, x2, y2, w2, hs2, hsb2, hsc2, hsd2, hse2⟩ := id hA2.2.1
      refine gh_callV C [] (c_fresh l d _ hA2.2.1 hA2.2.2.2.2.2.2.2.2 (by omega)) lG_64 wS_fresh vS_fresh hs2 rfl rfl rfl (Nat.le_of_ble_eq_true rfl) ⟨Nat.le_of_ble_eq_true rfl, Nat.le_of_ble_eq_true rfl⟩ (by (try dsimp only [rr]); omega) (by (try dsimp only [rr]); omega) dG_offer_58 (fun v58 g58 h58 => ?_)
      obtain ⟨rfl, hp3, hf3⟩ := h58
      have hA3 := hA2.fs (by omega) hp3 hf3
      have hw3 := hf3.at rfl gh_us
      obtain ⟨⟨qj, hqj, hqj2⟩, hJ2⟩ := id hA3.2.2.2.2.1
      refine gh_callI C [.int (nI m), .int (nI (sN S)), .int (nI (sN S + 1))] (c_KeyPackage l d _ (p := sP S) (nI m) (nI (sN S)) (nI (sN S + 1)) hw3) lG_96 wK_init iK_init rfl rfl rfl rfl (Nat.le_of_ble_eq_true rfl) ⟨Nat.le_of_ble_eq_true rfl, Nat.le_of_ble_eq_true rfl⟩ (Nat.le_of_ble_eq_true rfl) (Nat.le_of_ble_eq_true rfl) dG_offer_61 (fun v61 g61 h61 => ?_)
      obtain ⟨rfl, rfl⟩ := h61
      refine gh_aastN C (sP S) ((gh_un (gh_kd (by decide))).trans hqj) rfl gh_us rfl rfl ⟨hP60, by decide⟩ dG_offer_64 ?_
      refine gh_aload_n C dG_offer_65 rfl ?_
      refine gh_dup C dG_offer_66 rfl ?_
      refine gh_get C fG_90 ((gh_un (gh_kd (by decide))).trans ((gh_un (gh_kd (by decide))).trans hA3.1)) rfl dG_offer_67 ?_
      refine gh_iconst C 1 dG_offer_70 (by decide) ?_
      refine gh_iadd C dG_offer_71 ?_
      refine gh_ti (nI (sP S + 1)) (nI_1 (sP S)) ?_
      refine gh_putL C [.ref (Z 2 0), .ref (Z 7 0), .ref (Z 11 0), .int (nI (sE (frS (frS S)))), .ref (Z 17 0), .int (nI (sP S + 1)), .ref (Z 19 0), .int (nI (sQ (frS (frS S)))), .ref (Z 21 0), .ref (Z 22 0)] pG_90 (by decide) ((gh_un (gh_kd (by decide))).trans ((gh_un (gh_kd (by decide))).trans hA3.1)) rfl (by simp) rfl rfl dG_offer_72 ?_
      refine gh_aload_n C dG_offer_75 rfl ?_
      refine gh_get C fG_90 gh_us rfl dG_offer_76 ?_
      refine gh_iconst C 1 dG_offer_79 (by decide) ?_
      refine gh_isub C dG_offer_80 ?_
      refine gh_ti (nI (sP S)) (nI_pred (sP S)) ?_
      refine gh_iret C hQ rfl dG_offer_81 ?_
      refine ⟨rfl, zK Z (sP S) w, zK_k Z (by decide) 0, ?_, ?_⟩
      · have hA4 := hA3.zk (a := w) hqj hqj2 (st1 (st1 (st1 (st1 (st1 (st1 (frS (frS S)) 11 (sP S) (nI m)) 12 (sP S) (nI (sN S))) 13 (sP S) (nI (sN S + 1))) 14 (sP S) (-1)) 15 (sP S) (-1)) 16 (sP S) 0) rfl (fun c hc => by
          funext i
          simp [st1, show c ≠ 11 by omega, show c ≠ 12 by omega, show c ≠ 13 by omega, show c ≠ 14 by omega, show c ≠ 15 by omega, show c ≠ 16 by omega]) (fun c i hi => by
          have hi : i ≠ sP S := hi
          simp [st1, hi]) rfl
        have t11 : (st1 (st1 (st1 (st1 (st1 (st1 (frS (frS S)) 11 (sP S) (nI m)) 12 (sP S) (nI (sN S))) 13 (sP S) (nI (sN S + 1))) 14 (sP S) (-1)) 15 (sP S) (-1)) 16 (sP S) 0).2.1 11 (sP (frS (frS S))) = nI m := by
          show (st1 (st1 (st1 (st1 (st1 (st1 (frS (frS S)) 11 (sP S) (nI m)) 12 (sP S) (nI (sN S))) 13 (sP S) (nI (sN S + 1))) 14 (sP S) (-1)) 15 (sP S) (-1)) 16 (sP S) 0).2.1 11 (sP S) = nI m
          simp [st1]
        have t12 : (st1 (st1 (st1 (st1 (st1 (st1 (frS (frS S)) 11 (sP S) (nI m)) 12 (sP S) (nI (sN S))) 13 (sP S) (nI (sN S + 1))) 14 (sP S) (-1)) 15 (sP S) (-1)) 16 (sP S) 0).2.1 12 (sP (frS (frS S))) = nI (sN S) := by
          show (st1 (st1 (st1 (st1 (st1 (st1 (frS (frS S)) 11 (sP S) (nI m)) 12 (sP S) (nI (sN S))) 13 (sP S) (nI (sN S + 1))) 14 (sP S) (-1)) 15 (sP S) (-1)) 16 (sP S) 0).2.1 12 (sP S) = nI (sN S)
          simp [st1]
        have t13 : (st1 (st1 (st1 (st1 (st1 (st1 (frS (frS S)) 11 (sP S) (nI m)) 12 (sP S) (nI (sN S))) 13 (sP S) (nI (sN S + 1))) 14 (sP S) (-1)) 15 (sP S) (-1)) 16 (sP S) 0).2.1 13 (sP (frS (frS S))) = nI (sN S + 1) := by
          show (st1 (st1 (st1 (st1 (st1 (st1 (frS (frS S)) 11 (sP S) (nI m)) 12 (sP S) (nI (sN S))) 13 (sP S) (nI (sN S + 1))) 14 (sP S) (-1)) 15 (sP S) (-1)) 16 (sP S) 0).2.1 13 (sP S) = nI (sN S + 1)
          simp [st1]
        have t14 : (st1 (st1 (st1 (st1 (st1 (st1 (frS (frS S)) 11 (sP S) (nI m)) 12 (sP S) (nI (sN S))) 13 (sP S) (nI (sN S + 1))) 14 (sP S) (-1)) 15 (sP S) (-1)) 16 (sP S) 0).2.1 14 (sP (frS (frS S))) = -1 := by
          show (st1 (st1 (st1 (st1 (st1 (st1 (frS (frS S)) 11 (sP S) (nI m)) 12 (sP S) (nI (sN S))) 13 (sP S) (nI (sN S + 1))) 14 (sP S) (-1)) 15 (sP S) (-1)) 16 (sP S) 0).2.1 14 (sP S) = -1
          simp [st1]
        have t15 : (st1 (st1 (st1 (st1 (st1 (st1 (frS (frS S)) 11 (sP S) (nI m)) 12 (sP S) (nI (sN S))) 13 (sP S) (nI (sN S + 1))) 14 (sP S) (-1)) 15 (sP S) (-1)) 16 (sP S) 0).2.1 15 (sP (frS (frS S))) = -1 := by
          show (st1 (st1 (st1 (st1 (st1 (st1 (frS (frS S)) 11 (sP S) (nI m)) 12 (sP S) (nI (sN S))) 13 (sP S) (nI (sN S + 1))) 14 (sP S) (-1)) 15 (sP S) (-1)) 16 (sP S) 0).2.1 15 (sP S) = -1
          simp [st1]
        have t16 : (st1 (st1 (st1 (st1 (st1 (st1 (frS (frS S)) 11 (sP S) (nI m)) 12 (sP S) (nI (sN S))) 13 (sP S) (nI (sN S + 1))) 14 (sP S) (-1)) 15 (sP S) (-1)) 16 (sP S) 0).2.1 16 (sP (frS (frS S))) = 0 := by
          show (st1 (st1 (st1 (st1 (st1 (st1 (frS (frS S)) 11 (sP S) (nI m)) 12 (sP S) (nI (sN S))) 13 (sP S) (nI (sN S + 1))) 14 (sP S) (-1)) 15 (sP S) (-1)) 16 (sP S) 0).2.1 16 (sP S) = 0
          simp [st1]
        rw [t11, t12, t13, t14, t15, t16] at hA4
        exact hA4
      · exact (((((hf1.weak (fun k h => kS_kA h)).u rfl).trans (hf3.weak (fun k h => kS_kA h))).u rfl).u rfl).u rfl
    · exact absurd (show nI (sP S) < nI 60 from nI_lt hP60 (by decide)) c21
  · exact absurd c4 (by decide)
