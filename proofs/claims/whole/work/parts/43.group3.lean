/-! what only touches secrets and what an epoch's object counts -/
def sq (S S1 : SC) : Prop := S1.1 1 = S.1 1 ∧ S1.1 2 = S.1 2 ∧ (∀ b, b ≠ 3 → b ≠ 4 → S1.1 0 b = S.1 0 b) ∧ S1.2.2 = S.2.2 ∧ ∀ c, c ≠ 10 → c < 21 → S1.2.1 c = S.2.1 c
theorem sq.rf {S : SC} : sq S S := ⟨rfl, rfl, fun _ _ _ => rfl, rfl, fun _ _ _ => rfl⟩
theorem sq.trans {S S1 S2 : SC} (h : sq S S1) (h2 : sq S1 S2) : sq S S2 := ⟨h2.1.trans h.1, h2.2.1.trans h.2.1, fun b h3 h4 => (h2.2.2.1 b h3 h4).trans (h.2.2.1 b h3 h4), h2.2.2.2.1.trans h.2.2.2.1, fun c h3 h4 => (h2.2.2.2.2 c h3 h4).trans (h.2.2.2.2 c h3 h4)⟩
theorem sq_tie (S : SC) (a b c : Int32) : sq S (tieS S a b c) := ⟨rfl, rfl, fun b _ h4 => by simp [tieS, stN, sv1, h4], rfl, fun k _ h4 => by
  funext i
  simp [tieS, stN, sv1, show k ≠ 22 by omega, show k ≠ 23 by omega, show k ≠ 24 by omega]⟩
theorem sq_fr (S : SC) : sq S (frS S) := ⟨rfl, rfl, fun b h3 _ => by simp [frS, stN, h3], rfl, fun _ _ _ => rfl⟩
theorem sq_enc (S : SC) (e : Nat) (a c : Int32) : sq S (encS S e a c) := (sq_tie S a (-1) c).trans ⟨rfl, rfl, fun _ _ _ => rfl, rfl, fun k h _ => by
  funext i
  simp [encS, st1, h]⟩
theorem cG.sq {g : gh_H} {Z : ZC} {S S1 : SC} (h : cG g Z S) (hs : sq S S1) : cG g Z S1 := by
  unfold cG sE sP sQ
  rw [hs.2.2.1 0 (by decide) (by decide), hs.2.2.1 1 (by decide) (by decide), hs.2.2.1 2 (by decide) (by decide)]
  exact h
theorem cM.sq {g : gh_H} {Z : ZC} {S S1 : SC} (h : cM g Z S) (hs : sq S S1) : cM g Z S1 := ⟨h.1, fun m hm => by
  unfold cM1
  rw [hs.1, hs.2.2.2.1, hs.2.2.2.2 0 (by decide) (by decide), hs.2.2.2.2 1 (by decide) (by decide), hs.2.2.2.2 2 (by decide) (by decide), hs.2.2.2.2 3 (by decide) (by decide)]
  exact h.2 m hm⟩
theorem cK.sq {g : gh_H} {Z : ZC} {S S1 : SC} (h : cK g Z S) (hs : sq S S1) : cK g Z S1 := by
  obtain ⟨⟨q, q1, q2⟩, h3⟩ := h
  have e1 : sP S1 = sP S := hs.2.2.1 1 (by decide) (by decide)
  refine ⟨⟨q, q1, fun p hp => q2 p (by rw [← e1]; exact hp)⟩, fun p hp => ?_⟩
  unfold cK1
  rw [hs.2.2.2.2 11 (by decide) (by decide), hs.2.2.2.2 12 (by decide) (by decide), hs.2.2.2.2 13 (by decide) (by decide), hs.2.2.2.2 14 (by decide) (by decide), hs.2.2.2.2 15 (by decide) (by decide), hs.2.2.2.2 16 (by decide) (by decide)]
  exact h3 p (by rw [← e1]; exact hp)
theorem cP.sq {g : gh_H} {Z : ZC} {S S1 : SC} (h : cP g Z S) (hs : sq S S1) : cP g Z S1 := by
  obtain ⟨q, y, q1, q2⟩ := h
  have e1 : sQ S1 = sQ S := hs.2.2.1 2 (by decide) (by decide)
  refine ⟨q, y, q1, fun j hj => ?_⟩
  rw [hs.2.2.2.2 17 (by decide) (by decide), hs.2.2.2.2 18 (by decide) (by decide), hs.2.2.2.2 19 (by decide) (by decide)]
  exact q2 j (by rw [← e1]; exact hj)
theorem cO.sq {g : gh_H} {Z : ZC} {S S1 : SC} (h : cO g Z S) (hs : sq S S1) : cO g Z S1 := by
  unfold cO
  rw [hs.2.2.2.2 20 (by decide) (by decide)]
  exact h
/-- of the nodes of a mask, each one's key -/
def sndS (S : SC) (e : Nat) (mask s : Int32) : Nat → SC
  | 0 => S
  | i + 1 => if mask &&& bitN i = 0 then sndS S e mask s i else encS (sndS S e mask s i) e (tk (S.1 2 e) (S.2.2 2 e) i) s
theorem sq_snd (S : SC) (e : Nat) (mask s : Int32) : ∀ i, sq S (sndS S e mask s i)
  | 0 => sq.rf
  | i + 1 => by
    unfold sndS
    split
    · exact sq_snd S e mask s i
    · exact (sq_snd S e mask s i).trans (sq_enc _ _ _ _)
theorem enc_r (S : SC) (e : Nat) (a c : Int32) : sR (encS S e a c) = sR S + 1 := rfl
theorem enc_n (S : SC) (e : Nat) (a c : Int32) : sN (encS S e a c) = sN S := rfl
theorem snd_r (S : SC) (e : Nat) (mask s : Int32) : ∀ i, sR (sndS S e mask s i) ≤ sR (sndS S e mask s (i + 1)) ∧ sR (sndS S e mask s (i + 1)) ≤ sR (sndS S e mask s i) + 1 := by
  intro i
  conv => enter [1, 2]; unfold sndS
  conv => enter [2, 1]; unfold sndS
  split
  · omega
  · rw [enc_r]; omega
theorem snd_m (S : SC) (e : Nat) (mask s : Int32) {i j : Nat} (h : i ≤ j) : sR (sndS S e mask s i) ≤ sR (sndS S e mask s j) ∧ sR (sndS S e mask s j) ≤ sR (sndS S e mask s i) + (j - i) := by
  induction j with
  | zero => have : i = 0 := by omega
            subst this; omega
  | succ j ih =>
    by_cases hij : i = j + 1
    · subst hij; omega
    · have h1 := ih (by omega)
      have h2 := snd_r S e mask s j
      omega
set_option maxRecDepth 100000 in
set_option maxHeartbeats 4000000 in
theorem c_sendToNodes (l : Launch) (d : gh_D) (g : gh_H) {Z : ZC} {S : SC} (hG : cG g Z S) (hS : cS g Z S) (ok : okC S) (hr : sR S + 31 ≤ 4096) {n : Nat} (hE : cE g Z S n) (e : Nat) (he : e < n) (x y : Int32) : gh_C l d mG_sendToNodes (rr 5 93 (6 * cap (sR (sndS S e x y 31)) - 6 * cap (sR S))) [.ref (Z 1 0), .ref (Z 12 e), .int x, .int y] g (fun v g1 => v = none ∧ cS g1 Z (sndS S e x y 31) ∧ okC (sndS S e x y 31) ∧ cE g1 Z (sndS S e x y 31) n ∧ fr kN g g1) := by
  refine gh_of [some (.ref (Z 1 0)), some (.ref (Z 12 e)), some (.int x), some (.int y), none] (by decide) rfl (Nat.le_of_ble_eq_true rfl) (by simp [Value.category]) (fun z C hQ => ?_)
  show gh_W l d z 0 [some (.ref (Z 1 0)), some (.ref (Z 12 e)), some (.int x), some (.int y), none] [] g 93 (6 * cap (sR (sndS S e x y 31)) - 6 * cap (sR S))
  have hD := (hE.2 e he).2.2.2.2.2
  have loop : ∀ (c i : Nat) (g1 : gh_H), i + c = 31 → cG g1 Z S → cS g1 Z (sndS S e x y i) → okC (sndS S e x y i) → cE g1 Z (sndS S e x y i) n → fr kN g g1 → gh_W l d z 3 [some (.ref (Z 1 0)), some (.ref (Z 12 e)), some (.int x), some (.int y), some (.int (nI i))] [] g1 (3 * c) (6 * cap (sR (sndS S e x y 31)) - 6 * cap (sR (sndS S e x y i))) := by
    intro c
    induction c with
    | zero =>
      intro i g1 hi hG1 hS1 ok1 hE1 hf1
      have hi : i = 31 := by omega
      subst hi
      refine gh_iload C dG_sendToNodes_3 rfl ?_
      refine gh_bipush C 31 dG_sendToNodes_5 (by decide) ?_
      refine gh_icmp_ge C 41 dG_sendToNodes_7 (by decide) (fun c7 => ?_) (fun c7 => ?_)
      ·
        refine gh_vret C hQ rfl dG_sendToNodes_41 ?_
        exact ⟨rfl, hS1, ok1, hE1, hf1⟩
      · exact absurd (show (31 : Int32) ≤ nI 31 from nI_le (Nat.le_refl 31) (by decide)) c7
    | succ c ih =>
      intro i g1 hi hG1 hS1 ok1 hE1 hf1
      have hm1 := snd_m S e x y (show i ≤ 31 by omega)
      have hm0 := snd_m S e x y (Nat.zero_le i)
      have hm2 := snd_m S e x y (show i + 1 ≤ 31 by omega)
      have hs := sq_snd S e x y i
      have hE0 : cG g1 Z (sndS S e x y i) := hG1.sq hs
      have hw := hE1.2 e he
      have e0 : sR (sndS S e x y 0) = sR S := rfl
      refine gh_iload C dG_sendToNodes_3 rfl ?_
      refine gh_bipush C 31 dG_sendToNodes_5 (by decide) ?_
      refine gh_icmp_ge C 41 dG_sendToNodes_7 (by decide) (fun c7 => ?_) (fun c7 => ?_)
      · exact absurd c7 (show ¬ nI 31 ≤ nI i from nI_ge (by omega) (by decide))
      ·
        refine gh_iload_n C dG_sendToNodes_10 rfl ?_
        refine gh_iload C dG_sendToNodes_11 rfl ?_
        refine gh_callS C [.int (nI i)] (c_bit l d _ (nI i)) lG_239 wG_bit sG_bit rfl rfl (Nat.le_of_ble_eq_true rfl) ⟨Nat.le_of_ble_eq_true rfl, Nat.le_of_ble_eq_true rfl⟩ (Nat.le_of_ble_eq_true rfl) (Nat.le_of_ble_eq_true rfl) dG_sendToNodes_13 (fun v13 g13 h13 => ?_)
        obtain ⟨rfl, rfl⟩ := h13
        refine gh_iand C dG_sendToNodes_16 ?_
        refine gh_if_eq C 35 dG_sendToNodes_17 (by decide) (fun c17 => ?_) (fun c17 => ?_)
        · have ez : sndS S e x y (i + 1) = sndS S e x y i := if_pos c17
          refine gh_iinc C (nI (i + 1)) [some (.ref (Z 1 0)), some (.ref (Z 12 e)), some (.int x), some (.int y), some (.int (nI (i + 1)))] dG_sendToNodes_35 rfl (gh_inc i) rfl ?_
          refine gh_goto C 3 dG_sendToNodes_38 (by decide) ?_
          refine gh_less C (3 * c) (6 * cap (sR (sndS S e x y 31)) - 6 * cap (sR (sndS S e x y (i + 1)))) (by dsimp only [rr]; omega) (by rw [ez]; dsimp only [rr]; omega) ?_
          exact ih (i + 1) _ (by omega) hG1 (by rw [ez]; exact hS1) (by rw [ez]; exact ok1) (by rw [ez]; exact hE1) hf1
        ·
          have ez : sndS S e x y (i + 1) = encS (sndS S e x y i) e (tk (S.1 2 e) (S.2.2 2 e) i) y := if_neg c17
          have er : sR (sndS S e x y (i + 1)) = sR (sndS S e x y i) + 1 := by rw [ez]; rfl
          have hc1 := cap_mono (show sR (sndS S e x y i) ≤ sR (sndS S e x y i) + 1 by omega)
          have hc2 := cap_mono hm2.1
          rw [er] at hc2
          refine gh_aload_n C dG_sendToNodes_20 rfl ?_
          refine gh_aload_n C dG_sendToNodes_21 rfl ?_
          refine gh_aload_n C dG_sendToNodes_22 rfl ?_
          refine gh_get C fG_60 hw.1 rfl dG_sendToNodes_23 ?_
          refine gh_iload C dG_sendToNodes_26 rfl ?_
          refine gh_callV C [.int (nI i)] (c_keyOf l d _ hw.2 (nI i)) lG_187 wT_keyOf vT_keyOf hw.2.1 rfl rfl rfl (Nat.le_of_ble_eq_true rfl) ⟨Nat.le_of_ble_eq_true rfl, Nat.le_of_ble_eq_true rfl⟩ (Nat.le_of_ble_eq_true rfl) (Nat.le_of_ble_eq_true rfl) dG_sendToNodes_28 (fun v28 g28 h28 => ?_)
          obtain ⟨rfl, rfl⟩ := h28
          rw [tk_n hw.2.2.2.2.2 (by omega), hs.2.1, hs.2.2.2.1]
          refine gh_iload_n C dG_sendToNodes_31 rfl ?_
          refine gh_callV C [.ref (Z 12 e), .int (tk (S.1 2 e) (S.2.2 2 e) i), .int y] (c_encrypt l d _ hE0 hS1 ok1 (by omega) hE1 e he (tk (S.1 2 e) (S.2.2 2 e) i) y) lG_302 wG_encrypt vG_encrypt hG1 rfl rfl rfl (Nat.le_of_ble_eq_true rfl) ⟨Nat.le_of_ble_eq_true rfl, Nat.le_of_ble_eq_true rfl⟩ (by dsimp only [rr]; omega) (by dsimp only [rr]; omega) dG_sendToNodes_32 (fun v32 g32 h32 => ?_)
          obtain ⟨rfl, hS2, hE2, hf2⟩ := h32
          rw [← ez] at hS2 hE2
          refine gh_iinc C (nI (i + 1)) [some (.ref (Z 1 0)), some (.ref (Z 12 e)), some (.int x), some (.int y), some (.int (nI (i + 1)))] dG_sendToNodes_35 rfl (gh_inc i) rfl ?_
          refine gh_goto C 3 dG_sendToNodes_38 (by decide) ?_
          refine gh_less C (3 * c) (6 * cap (sR (sndS S e x y 31)) - 6 * cap (sR (sndS S e x y (i + 1)))) (by dsimp only [rr]; omega) (by dsimp only [rr]; rw [er]; omega) ?_
          exact ih (i + 1) _ (by omega) (hG1.fr hf2 (by decide)) hS2 (by rw [ez]; exact ok1.enc (by omega) _ _ _) hE2 (hf1.trans hf2)
  refine gh_iconst C 0 dG_sendToNodes_0 (by decide) ?_
  refine gh_istore C [some (.ref (Z 1 0)), some (.ref (Z 12 e)), some (.int x), some (.int y), some (.int 0)] dG_sendToNodes_1 rfl (Nat.le_of_ble_eq_true rfl) ?_
  exact loop 31 0 g (by omega) hG hS ok hE fr.rf
