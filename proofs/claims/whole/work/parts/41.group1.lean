set_option maxRecDepth 100000 in
set_option maxHeartbeats 4000000 in
theorem c_isMember (l : Launch) (d : gh_D) (g : gh_H) (x : Int32) : gh_C l d mG_isMember (rr 0 0 0) [.int x] g (fun v g1 => v = some (.int (if inn 16 x = true then 1 else 0)) ∧ g1 = g) := by
  refine gh_of [some (.int x)] (by decide) rfl (Nat.le_of_ble_eq_true rfl) (by simp [Value.category]) (fun z C hQ => ?_)
  show gh_W l d z 0 [some (.int x)] [] g 0 0
  refine gh_iload_n C dG_isMember_0 rfl ?_
  refine gh_if_lt C 14 dG_isMember_1 (by decide) (fun c1 => ?_) (fun c1 => ?_)
  ·
    have hz := inn_1 (n := 16) c1
    refine gh_iconst C 0 dG_isMember_14 (by decide) ?_
    refine gh_zret C hQ rfl (by simp) dG_isMember_15 ?_
    first | exact ⟨by rw [if_pos hz], rfl⟩ | exact ⟨by rw [if_neg hz], rfl⟩
  ·
    refine gh_iload_n C dG_isMember_4 rfl ?_
    refine gh_bipush C 16 dG_isMember_5 (by decide) ?_
    refine gh_icmp_ge C 14 dG_isMember_7 (by decide) (fun c7 => ?_) (fun c7 => ?_)
    ·
      have hz := inn_2 (n := 16) (x := x) c7
      refine gh_iconst C 0 dG_isMember_14 (by decide) ?_
      refine gh_zret C hQ rfl (by simp) dG_isMember_15 ?_
      first | exact ⟨by rw [if_pos hz], rfl⟩ | exact ⟨by rw [if_neg hz], rfl⟩
    ·
      have hz := inn_3 (n := 16) (x := x) c1 c7
      refine gh_iconst C 1 dG_isMember_10 (by decide) ?_
      refine gh_goto C 15 dG_isMember_11 (by decide) ?_
      refine gh_zret C hQ rfl (by simp) dG_isMember_15 ?_
      first | exact ⟨by rw [if_pos hz], rfl⟩ | exact ⟨by rw [if_neg hz], rfl⟩
set_option maxRecDepth 100000 in
set_option maxHeartbeats 4000000 in
theorem c_isEpoch (l : Launch) (d : gh_D) (g : gh_H) {Z : ZC} {S : SC} (hG : cG g Z S) (x : Int32) : gh_C l d mG_isEpoch (rr 0 0 0) [.ref (Z 1 0), .int x] g (fun v g1 => v = some (.int (if inn (sE S) x = true then 1 else 0)) ∧ g1 = g) := by
  refine gh_of [some (.ref (Z 1 0)), some (.int x)] (by decide) rfl (Nat.le_of_ble_eq_true rfl) (by simp [Value.category]) (fun z C hQ => ?_)
  show gh_W l d z 0 [some (.ref (Z 1 0)), some (.int x)] [] g 0 0
  refine gh_iload_n C dG_isEpoch_0 rfl ?_
  refine gh_if_lt C 16 dG_isEpoch_1 (by decide) (fun c1 => ?_) (fun c1 => ?_)
  ·
    have hz := inn_1 (n := sE S) c1
    refine gh_iconst C 0 dG_isEpoch_16 (by decide) ?_
    refine gh_zret C hQ rfl (by simp) dG_isEpoch_17 ?_
    first | exact ⟨by rw [if_pos hz], rfl⟩ | exact ⟨by rw [if_neg hz], rfl⟩
  ·
    refine gh_iload_n C dG_isEpoch_4 rfl ?_
    refine gh_aload_n C dG_isEpoch_5 rfl ?_
    refine gh_get C fG_76 hG rfl dG_isEpoch_6 ?_
    refine gh_icmp_ge C 16 dG_isEpoch_9 (by decide) (fun c9 => ?_) (fun c9 => ?_)
    ·
      have hz := inn_2 c9
      refine gh_iconst C 0 dG_isEpoch_16 (by decide) ?_
      refine gh_zret C hQ rfl (by simp) dG_isEpoch_17 ?_
      first | exact ⟨by rw [if_pos hz], rfl⟩ | exact ⟨by rw [if_neg hz], rfl⟩
    ·
      have hz := inn_3 c1 c9
      refine gh_iconst C 1 dG_isEpoch_12 (by decide) ?_
      refine gh_goto C 17 dG_isEpoch_13 (by decide) ?_
      refine gh_zret C hQ rfl (by simp) dG_isEpoch_17 ?_
      first | exact ⟨by rw [if_pos hz], rfl⟩ | exact ⟨by rw [if_neg hz], rfl⟩
def lat (S : SC) (m : Nat) : Bool := decide (S.2.1 0 m = nI (sE S - 1))
theorem pred_n {n : Nat} (h : 1 ≤ n) : nI n - 1 = nI (n - 1) := by
  have := nI_pred (n - 1)
  rwa [show n - 1 + 1 = n by omega] at this
set_option maxRecDepth 100000 in
set_option maxHeartbeats 4000000 in
theorem c_isInLatest (l : Launch) (d : gh_D) (g : gh_H) {Z : ZC} {S : SC} (hG : cG g Z S) (hM : cM g Z S) (m : Nat) (hm : m < 16) (hE1 : 1 ≤ sE S) : gh_C l d mG_isInLatest (rr 0 0 0) [.ref (Z 1 0), .int (nI m)] g (fun v g1 => v = some (.int (if lat S m = true then 1 else 0)) ∧ g1 = g) := by
  obtain ⟨⟨qm, hqm, hqm2⟩, hM2⟩ := id hM
  refine gh_of [some (.ref (Z 1 0)), some (.int (nI m))] (by decide) rfl (Nat.le_of_ble_eq_true rfl) (by simp [Value.category]) (fun z C hQ => ?_)
  show gh_W l d z 0 [some (.ref (Z 1 0)), some (.int (nI m))] [] g 0 0
  refine gh_aload_n C dG_isInLatest_0 rfl ?_
  refine gh_get C fG_18 hG rfl dG_isInLatest_1 ?_
  refine gh_iload_n C dG_isInLatest_4 rfl ?_
  refine gh_aaldN C (m) hqm rfl rfl ⟨hm, by decide⟩ dG_isInLatest_5 ?_
  refine gh_tr (some (Z 8 m)) (hqm2 m hm) ?_
  refine gh_get C fG_161 (hM.2 m hm).1 rfl dG_isInLatest_6 ?_
  refine gh_aload_n C dG_isInLatest_9 rfl ?_
  refine gh_get C fG_76 hG rfl dG_isInLatest_10 ?_
  refine gh_iconst C 1 dG_isInLatest_13 (by decide) ?_
  refine gh_isub C dG_isInLatest_14 ?_
  refine gh_ti (nI (sE S - 1)) (pred_n hE1) ?_
  refine gh_icmp_ne C 22 dG_isInLatest_15 (by decide) (fun c15 => ?_) (fun c15 => ?_)
  ·
    have hz : ¬ lat S m = true := by unfold lat; simpa using c15
    refine gh_iconst C 0 dG_isInLatest_22 (by decide) ?_
    refine gh_zret C hQ rfl (by simp) dG_isInLatest_23 ?_
    first | exact ⟨by rw [if_pos hz], rfl⟩ | exact ⟨by rw [if_neg hz], rfl⟩
  ·
    have hz : lat S m = true := by unfold lat; simpa using c15
    refine gh_iconst C 1 dG_isInLatest_18 (by decide) ?_
    refine gh_goto C 23 dG_isInLatest_19 (by decide) ?_
    refine gh_zret C hQ rfl (by simp) dG_isInLatest_23 ?_
    first | exact ⟨by rw [if_pos hz], rfl⟩ | exact ⟨by rw [if_neg hz], rfl⟩
def mayp (S : SC) (m : Nat) : Bool := lat S m && decide (sQ S < 20)
set_option maxRecDepth 100000 in
set_option maxHeartbeats 4000000 in
theorem c_mayPropose (l : Launch) (d : gh_D) (g : gh_H) {Z : ZC} {S : SC} (hG : cG g Z S) (hM : cM g Z S) (m : Nat) (hm : m < 16) (hE1 : 1 ≤ sE S) (hQ1 : sQ S ≤ 20) : gh_C l d mG_mayPropose (rr 1 0 0) [.ref (Z 1 0), .int (nI m)] g (fun v g1 => v = some (.int (if mayp S m = true then 1 else 0)) ∧ g1 = g) := by
  refine gh_of [some (.ref (Z 1 0)), some (.int (nI m))] (by decide) rfl (Nat.le_of_ble_eq_true rfl) (by simp [Value.category]) (fun z C hQ => ?_)
  show gh_W l d z 0 [some (.ref (Z 1 0)), some (.int (nI m))] [] g 0 0
  refine gh_aload_n C dG_mayPropose_0 rfl ?_
  refine gh_iload_n C dG_mayPropose_1 rfl ?_
  refine gh_callV C [.int (nI m)] (c_isInLatest l d _ hG hM m hm hE1) lG_113 wG_isInLatest vG_isInLatest hG rfl rfl rfl (Nat.le_of_ble_eq_true rfl) ⟨Nat.le_of_ble_eq_true rfl, Nat.le_of_ble_eq_true rfl⟩ (Nat.le_of_ble_eq_true rfl) (Nat.le_of_ble_eq_true rfl) dG_mayPropose_2 (fun v2 g2 h2 => ?_)
  obtain ⟨rfl, rfl⟩ := h2
  refine gh_if_eq C 21 dG_mayPropose_5 (by decide) (fun c5 => ?_) (fun c5 => ?_)
  ·
    have e5 : ¬ lat S m = true := fun h => by rw [if_pos h] at c5; exact absurd c5 (by decide)
    have hz : ¬ mayp S m = true := by simp [mayp, e5]
    refine gh_iconst C 0 dG_mayPropose_21 (by decide) ?_
    refine gh_zret C hQ rfl (by simp) dG_mayPropose_22 ?_
    first | exact ⟨by rw [if_pos hz], rfl⟩ | exact ⟨by rw [if_neg hz], rfl⟩
  ·
    have e5 : lat S m = true := by
      by_cases h : lat S m = true
      · exact h
      · rw [if_neg h] at c5; exact absurd rfl c5
    refine gh_aload_n C dG_mayPropose_8 rfl ?_
    refine gh_get C fG_152 hG rfl dG_mayPropose_9 ?_
    refine gh_bipush C 20 dG_mayPropose_12 (by decide) ?_
    refine gh_icmp_ge C 21 dG_mayPropose_14 (by decide) (fun c14 => ?_) (fun c14 => ?_)
    ·
      have hz : ¬ mayp S m = true := by
        have h20 : ¬ sQ S < 20 := fun h => absurd c14 (show ¬ nI 20 ≤ nI (sQ S) from nI_ge h (by decide))
        simp [mayp, h20]
      refine gh_iconst C 0 dG_mayPropose_21 (by decide) ?_
      refine gh_zret C hQ rfl (by simp) dG_mayPropose_22 ?_
      first | exact ⟨by rw [if_pos hz], rfl⟩ | exact ⟨by rw [if_neg hz], rfl⟩
    ·
      have hz : mayp S m = true := by
        have h20 : sQ S < 20 := by
          rcases Nat.lt_or_ge (sQ S) 20 with h | h
          · exact h
          · exact absurd (show nI 20 ≤ nI (sQ S) from nI_le h (by omega)) c14
        simp [mayp, e5, h20]
      refine gh_iconst C 1 dG_mayPropose_17 (by decide) ?_
      refine gh_goto C 22 dG_mayPropose_18 (by decide) ?_
      refine gh_zret C hQ rfl (by simp) dG_mayPropose_22 ?_
      first | exact ⟨by rw [if_pos hz], rfl⟩ | exact ⟨by rw [if_neg hz], rfl⟩
def prS (S : SC) (k b y : Int32) : SC := stN (st1 (st1 (st1 S 17 (sQ S) k) 18 (sQ S) b) 19 (sQ S) y) 0 2 (sQ S + 1)
def kP (k : Nat) : Bool := k == 1 || k == 19 || k == 20 || decide (60 ≤ k)
theorem frfq {P : Nat → Bool} {g g1 : gh_H} (h : fr P g g1) : fq (fun k => P k.1) g g1 := fun k hk => h k hk
set_option maxRecDepth 100000 in
set_option maxHeartbeats 4000000 in
theorem c_propose (l : Launch) (d : gh_D) (g : gh_H) {Z : ZC} {S : SC} (hG : cG g Z S) (hP : cP g Z S) (hQ1 : sQ S < 20) {w : Nat} (k b y : Int32) (hw : g (62, 0) = some (w, .inr (6, [.int k, .int b, .int y]))) : gh_C l d mG_propose (rr 0 0 0) [.ref (Z 1 0), .ref w] g (fun v g1 => v = some (.int (nI (sQ S + 1))) ∧ cG g1 Z (prS S k b y) ∧ cP g1 Z (prS S k b y) ∧ fr kP g g1) := by
  obtain ⟨qp, yp, hqp, hqp2⟩ := id hP
  refine gh_of [some (.ref (Z 1 0)), some (.ref w)] (by decide) rfl (Nat.le_of_ble_eq_true rfl) (by simp [Value.category]) (fun z C hQ => ?_)
  show gh_W l d z 0 [some (.ref (Z 1 0)), some (.ref w)] [] g 0 0
  refine gh_aload_n C dG_propose_0 rfl ?_
  refine gh_get C fG_36 hG rfl dG_propose_1 ?_
  refine gh_aload_n C dG_propose_4 rfl ?_
  refine gh_get C fG_152 hG rfl dG_propose_5 ?_
  refine gh_aload_n C dG_propose_8 rfl ?_
  refine gh_aastN C (sQ S) hqp rfl hw rfl rfl ⟨hQ1, by decide⟩ dG_propose_9 ?_
  refine gh_aload_n C dG_propose_10 rfl ?_
  refine gh_dup C dG_propose_11 rfl ?_
  refine gh_get C fG_152 ((gh_un (gh_kd (by decide))).trans hG) rfl dG_propose_12 ?_
  refine gh_iconst C 1 dG_propose_15 (by decide) ?_
  refine gh_iadd C dG_propose_16 ?_
  refine gh_ti (nI (sQ S + 1)) (nI_1 (sQ S)) ?_
  refine gh_putL C [.ref (Z 2 0), .ref (Z 7 0), .ref (Z 11 0), .int (nI (sE S)), .ref (Z 17 0), .int (nI (sP S)), .ref (Z 19 0), .int (nI (sQ S + 1)), .ref (Z 21 0), .ref (Z 22 0)] pG_152 (by decide) ((gh_un (gh_kd (by decide))).trans hG) rfl (by simp) rfl rfl dG_propose_17 ?_
  refine gh_aload_n C dG_propose_20 rfl ?_
  refine gh_get C fG_152 gh_us rfl dG_propose_21 ?_
  refine gh_move C (62, 0) (20, sQ S) ?_
  refine gh_iret C hQ rfl dG_propose_24 ?_
  refine ⟨rfl, ((gh_mv_o (gh_kd (by decide)) (gh_kd (by decide))).trans gh_us), ⟨va_up qp (sQ S) (some w), fun j => if j = sQ S then w else yp j, ((gh_mv_o (gh_kd (by decide)) (gh_kd (by decide))).trans ((gh_un (gh_kd (by decide))).trans gh_us)), fun j hj => ?_⟩, (((fr.rf.u rfl).u rfl).mv rfl rfl)⟩
  by_cases h : j = sQ S
  · subst h
    refine ⟨by simp [va_up], ?_⟩
    refine (gh_mv_k.trans ((gh_un (gh_kd (by decide))).trans ((gh_un (gh_kd (by decide))).trans hw))).trans ?_
    simp [prS, stN, st1]
  · have hj : j < sQ S + 1 := by simpa [prS, stN, sQ] using hj
    have hj2 : j < sQ S := by omega
    refine ⟨by simp [va_up, h, (hqp2 j hj2).1], ?_⟩
    refine ((gh_mv_o (gh_kx h) (gh_kd (by decide))).trans ((gh_un (gh_kd (by decide))).trans ((gh_un (gh_kd (by decide))).trans (hqp2 j hj2).2))).trans ?_
    simp [prS, stN, st1, h]
def hasl (S : SC) (x : Int32) : Bool := (List.range 16).any (fun i => decide (S.2.1 20 i = x))
set_option maxRecDepth 100000 in
set_option maxHeartbeats 4000000 in
theorem c_hasLeaf (l : Launch) (d : gh_D) (g : gh_H) {Z : ZC} {S : SC} (hG : cG g Z S) (hO : cO g Z S) (x : Int32) : gh_C l d mG_hasLeaf (rr 0 0 0) [.ref (Z 1 0), .int x] g (fun v g1 => v = some (.int (if hasl S x = true then 1 else 0)) ∧ g1 = g) := by
  refine gh_of [some (.ref (Z 1 0)), some (.int x), none] (by decide) rfl (Nat.le_of_ble_eq_true rfl) (by simp [Value.category]) (fun z C hQ => ?_)
  show gh_W l d z 0 [some (.ref (Z 1 0)), some (.int x), none] [] g 0 0
  have loop : ∀ (c i : Nat), i + c = 16 → (∀ j, j < i → S.2.1 20 j ≠ x) → gh_W l d z 2 [some (.ref (Z 1 0)), some (.int x), some (.int (nI i))] [] g 0 0 := by
    intro c
    induction c with
    | zero =>
      intro i hi hb
      have hi : i = 16 := by omega
      subst hi
      have hz : ¬ hasl S x = true := by
        intro h
        obtain ⟨j, hj, he⟩ := List.any_eq_true.mp h
        rw [List.mem_range] at hj
        exact hb j hj (by simpa using he)
      refine gh_iload_n C dG_hasLeaf_2 rfl ?_
      refine gh_bipush C 16 dG_hasLeaf_3 (by decide) ?_
      refine gh_icmp_ge C 26 dG_hasLeaf_5 (by decide) (fun c5 => ?_) (fun c5 => ?_)
      ·
        refine gh_iconst C 0 dG_hasLeaf_26 (by decide) ?_
        refine gh_zret C hQ rfl (by simp) dG_hasLeaf_27 ?_
        exact ⟨by rw [if_neg hz], rfl⟩
      · exact absurd (show (16 : Int32) ≤ nI 16 from nI_le (Nat.le_refl 16) (by decide)) c5
    | succ c ih =>
      intro i hi hb
      refine gh_iload_n C dG_hasLeaf_2 rfl ?_
      refine gh_bipush C 16 dG_hasLeaf_3 (by decide) ?_
      refine gh_icmp_ge C 26 dG_hasLeaf_5 (by decide) (fun c5 => ?_) (fun c5 => ?_)
      · exact absurd c5 (show ¬ nI 16 ≤ nI i from nI_ge (by omega) (by decide))
      ·
        refine gh_aload_n C dG_hasLeaf_8 rfl ?_
        refine gh_get C fG_40 hG rfl dG_hasLeaf_9 ?_
        refine gh_iload_n C dG_hasLeaf_12 rfl ?_
        refine gh_ialdN C (i) hO rfl rfl ⟨by omega, by decide⟩ dG_hasLeaf_13 ?_
        refine gh_iload_n C dG_hasLeaf_14 rfl ?_
        refine gh_icmp_ne C 20 dG_hasLeaf_15 (by decide) (fun c15 => ?_) (fun c15 => ?_)
        ·
          refine gh_iinc C (nI (i + 1)) [some (.ref (Z 1 0)), some (.int x), some (.int (nI (i + 1)))] dG_hasLeaf_20 rfl (gh_inc i) rfl ?_
          refine gh_goto C 2 dG_hasLeaf_23 (by decide) ?_
          exact ih (i + 1) (by omega) (fun j hj => by
            by_cases h : j = i
            · subst h; exact c15
            · exact hb j (by omega))
        ·
          refine gh_iconst C 1 dG_hasLeaf_18 (by decide) ?_
          refine gh_zret C hQ rfl (by simp) dG_hasLeaf_19 ?_
          have hz : hasl S x = true := List.any_eq_true.mpr ⟨i, List.mem_range.mpr (by omega), by simpa using c15⟩
          exact ⟨by rw [if_pos hz], rfl⟩
  refine gh_iconst C 0 dG_hasLeaf_0 (by decide) ?_
  refine gh_istore_n C [some (.ref (Z 1 0)), some (.int x), some (.int 0)] dG_hasLeaf_1 rfl (Nat.le_of_ble_eq_true rfl) ?_
  exact loop 16 0 (by omega) (fun j hj => by omega)
def mba (S : SC) (i : Nat) : Bool := decide (S.2.1 14 i = -1) && decide (S.2.1 0 (S.2.1 11 i).toNatClampNeg = -1) && !hasl S (S.2.1 11 i)
set_option maxRecDepth 100000 in
set_option maxHeartbeats 4000000 in
theorem c_mayBeAdded (l : Launch) (d : gh_D) (g : gh_H) {Z : ZC} {S : SC} (hG : cG g Z S) (hM : cM g Z S) (hO : cO g Z S) (i m : Nat) (hi : cK1 g Z S i) (hm : m < 16) (hmi : S.2.1 11 i = nI m) : gh_C l d mG_mayBeAdded (rr 1 0 0) [.ref (Z 1 0), .ref (Z 18 i)] g (fun v g1 => v = some (.int (if mba S i = true then 1 else 0)) ∧ g1 = g) := by
  obtain ⟨⟨qm, hqm, hqm2⟩, hM2⟩ := id hM
  have hcl : (S.2.1 11 i).toNatClampNeg = m := by rw [hmi]; exact nI_clamp (by omega)
  refine gh_of [some (.ref (Z 1 0)), some (.ref (Z 18 i))] (by decide) rfl (Nat.le_of_ble_eq_true rfl) (by simp [Value.category]) (fun z C hQ => ?_)
  show gh_W l d z 0 [some (.ref (Z 1 0)), some (.ref (Z 18 i))] [] g 0 0
  refine gh_aload_n C dG_mayBeAdded_0 rfl ?_
  refine gh_get C fG_262 hi rfl dG_mayBeAdded_1 ?_
  refine gh_iconst C (-1) dG_mayBeAdded_4 (by decide) ?_
  refine gh_icmp_ne C 39 dG_mayBeAdded_5 (by decide) (fun c5 => ?_) (fun c5 => ?_)
  ·
    have hz : ¬ mba S i = true := by simp [mba, c5]
    refine gh_iconst C 0 dG_mayBeAdded_39 (by decide) ?_
    refine gh_zret C hQ rfl (by simp) dG_mayBeAdded_40 ?_
    first | exact ⟨by rw [if_pos hz], rfl⟩ | exact ⟨by rw [if_neg hz], rfl⟩
  ·
    refine gh_aload_n C dG_mayBeAdded_8 rfl ?_
    refine gh_get C fG_18 hG rfl dG_mayBeAdded_9 ?_
    refine gh_aload_n C dG_mayBeAdded_12 rfl ?_
    refine gh_get C fG_263 hi rfl dG_mayBeAdded_13 ?_
    refine gh_aaldN C (m) hqm rfl hmi ⟨hm, by decide⟩ dG_mayBeAdded_16 ?_
    refine gh_tr (some (Z 8 m)) (hqm2 m hm) ?_
    refine gh_get C fG_161 (hM.2 m hm).1 rfl dG_mayBeAdded_17 ?_
    refine gh_iconst C (-1) dG_mayBeAdded_20 (by decide) ?_
    refine gh_icmp_ne C 39 dG_mayBeAdded_21 (by decide) (fun c21 => ?_) (fun c21 => ?_)
    ·
      have hz : ¬ mba S i = true := by simp [mba, hcl, c21]
      refine gh_iconst C 0 dG_mayBeAdded_39 (by decide) ?_
      refine gh_zret C hQ rfl (by simp) dG_mayBeAdded_40 ?_
      first | exact ⟨by rw [if_pos hz], rfl⟩ | exact ⟨by rw [if_neg hz], rfl⟩
    ·
      refine gh_aload_n C dG_mayBeAdded_24 rfl ?_
      refine gh_aload_n C dG_mayBeAdded_25 rfl ?_
      refine gh_get C fG_263 hi rfl dG_mayBeAdded_26 ?_
      refine gh_callV C [.int (S.2.1 11 i)] (c_hasLeaf l d _ hG hO (S.2.1 11 i)) lG_266 wG_hasLeaf vG_hasLeaf hG rfl rfl rfl (Nat.le_of_ble_eq_true rfl) ⟨Nat.le_of_ble_eq_true rfl, Nat.le_of_ble_eq_true rfl⟩ (Nat.le_of_ble_eq_true rfl) (Nat.le_of_ble_eq_true rfl) dG_mayBeAdded_29 (fun v29 g29 h29 => ?_)
      obtain ⟨rfl, rfl⟩ := h29
      refine gh_if_ne C 39 dG_mayBeAdded_32 (by decide) (fun c32 => ?_) (fun c32 => ?_)
      ·
        have e32 : hasl S (S.2.1 11 i) = true := by
          by_cases h : hasl S (S.2.1 11 i) = true
          · exact h
          · rw [if_neg h] at c32; exact absurd rfl c32
        have hz : ¬ mba S i = true := by simp [mba, e32]
        refine gh_iconst C 0 dG_mayBeAdded_39 (by decide) ?_
        refine gh_zret C hQ rfl (by simp) dG_mayBeAdded_40 ?_
        first | exact ⟨by rw [if_pos hz], rfl⟩ | exact ⟨by rw [if_neg hz], rfl⟩
      ·
        have e32 : ¬ hasl S (S.2.1 11 i) = true := fun h => by rw [if_pos h] at c32; exact absurd c32 (by decide)
        have hz : mba S i = true := by simp [mba, c5, c21, hcl, e32]
        refine gh_iconst C 1 dG_mayBeAdded_35 (by decide) ?_
        refine gh_goto C 40 dG_mayBeAdded_36 (by decide) ?_
        refine gh_zret C hQ rfl (by simp) dG_mayBeAdded_40 ?_
        first | exact ⟨by rw [if_pos hz], rfl⟩ | exact ⟨by rw [if_neg hz], rfl⟩
