/-! makePath -/
def tq (S S1 : SC) : Prop := S1.1 1 = S.1 1 ∧ S1.1 2 = S.1 2 ∧ (∀ b, b ≠ 3 → b ≠ 4 → S1.1 0 b = S.1 0 b) ∧ (∀ c, c ≠ 10 → c ≠ 6 → c < 21 → S1.2.1 c = S.2.1 c) ∧ (∀ c, c < 2 → S1.2.2 c = S.2.2 c) ∧ sN S ≤ sN S1 ∧ sR S ≤ sR S1
theorem tq.rf {S : SC} : tq S S := ⟨rfl, rfl, fun _ _ _ => rfl, fun _ _ _ _ => rfl, fun _ _ => rfl, Nat.le_refl _, Nat.le_refl _⟩
theorem tq.trans {S S1 S2 : SC} (h : tq S S1) (h2 : tq S1 S2) : tq S S2 := ⟨h2.1.trans h.1, h2.2.1.trans h.2.1, fun b h3 h4 => (h2.2.2.1 b h3 h4).trans (h.2.2.1 b h3 h4), fun c h3 h4 h5 => (h2.2.2.2.1 c h3 h4 h5).trans (h.2.2.2.1 c h3 h4 h5), fun c h3 => (h2.2.2.2.2.1 c h3).trans (h.2.2.2.2.1 c h3), Nat.le_trans h.2.2.2.2.2.1 h2.2.2.2.2.2.1, Nat.le_trans h.2.2.2.2.2.2 h2.2.2.2.2.2.2⟩
theorem sq.tq {S S1 : SC} (h : sq S S1) (hn : sN S ≤ sN S1) (hr : sR S ≤ sR S1) : tq S S1 := ⟨h.1, h.2.1, h.2.2.1, fun c h1 _ h3 => h.2.2.2.2 c h1 h3, fun c _ => by rw [h.2.2.2.1], hn, hr⟩
theorem snd_n (S : SC) (e : Nat) (mask s : Int32) : ∀ i, sN (sndS S e mask s i) = sN S
  | 0 => rfl
  | i + 1 => by
    unfold sndS
    split
    · exact snd_n S e mask s i
    · rw [enc_n]; exact snd_n S e mask s i
theorem pk_n (S : SC) (e : Nat) (sel : Nat → Bool) (s : Int32) : ∀ i, sN (pkS S e sel s i) = sN S
  | 0 => rfl
  | i + 1 => by
    unfold pkS
    split
    · rw [enc_n]; exact pk_n S e sel s i
    · exact pk_n S e sel s i
theorem tq_snd (S : SC) (e : Nat) (mask s : Int32) (i : Nat) : tq S (sndS S e mask s i) := (sq_snd S e mask s i).tq (by rw [snd_n]; exact Nat.le_refl _) (snd_m S e mask s (Nat.zero_le i)).1
theorem tq_pk (S : SC) (e : Nat) (sel : Nat → Bool) (s : Int32) (i : Nat) : tq S (pkS S e sel s i) := (sq_pk S e sel s i).tq (by rw [pk_n]; exact Nat.le_refl _) (pk_m S e sel s (Nat.zero_le i)).1
theorem tq_fr (S : SC) : tq S (frS S) := (sq_fr S).tq (Nat.le_succ _) (Nat.le_refl _)
theorem tq_dr2 (S : SC) (p q : Int32) : tq S (dr2S S p q) := (sq_dr2 S p q).tq (Nat.le_succ _) (Nat.le_succ _)
theorem tq_tr (S : SC) (e : Nat) (K B U : Nat → Int32) : tq S (trS S e K B U) := ⟨rfl, rfl, fun _ _ _ => rfl, fun _ _ _ _ => rfl, fun c h => by
  funext i
  simp [trS, st2, show c ≠ 2 by omega, show c ≠ 3 by omega, show c ≠ 4 by omega], Nat.le_refl _, Nat.le_refl _⟩
theorem tq_6 (S : SC) (e : Nat) (x : Int32) : tq S (st1 S 6 e x) := ⟨rfl, rfl, fun _ _ _ => rfl, fun c _ h _ => by
  funext i
  simp [st1, h], fun _ _ => rfl, Nat.le_refl _, Nat.le_refl _⟩
theorem tq_nx (S : SC) (p : Int32) : tq S (nxS S p) := by
  unfold nxS
  split
  · exact tq_fr S
  · exact tq_dr2 S p (-1)
theorem tq_mpN (S : SC) (e a h : Nat) (p : Int32) : tq S (mpN S e a h p).1 :=
  (tq_snd S e _ p 31).trans ((tq_pk _ e _ p _).trans ((tq_dr2 _ p (-1)).trans ((tq_tr _ e _ _ _).trans (tq_6 _ e _))))
theorem tq_mpT (S : SC) (e a h : Nat) (p : Int32) : tq S (mpT S e a h p).1 := by
  unfold mpT
  split
  · exact tq_tr _ _ _ _ _
  · exact (tq_nx S p).trans (tq_mpN _ e a h _)
theorem tq_mpL (S : SC) (e a : Nat) : ∀ h, tq S (mpL S e a h).1
  | 0 => (tq_fr S).trans (tq_tr _ _ _ _ _)
  | h + 1 => (tq_mpL S e a h).trans (tq_mpT _ e a h _)
theorem tq_mpLm (S : SC) (e a : Nat) {h k : Nat} (hk : h ≤ k) : tq (mpL S e a h).1 (mpL S e a k).1 := by
  induction k with
  | zero => have : h = 0 := by omega
            subst this; exact tq.rf
  | succ k ih =>
    by_cases e1 : h = k + 1
    · subst e1; exact tq.rf
    · exact (ih (by omega)).trans (tq_mpT _ e a k _)
def bud (S : SC) : Nat := 2 * cap (sN S) + 6 * cap (sR S)
theorem bud_m {S S1 : SC} (h : tq S S1) : bud S ≤ bud S1 := by
  have h1 := cap_mono h.2.2.2.2.2.1
  have h2 := cap_mono h.2.2.2.2.2.2
  unfold bud
  omega
theorem bud_fr (S : SC) : bud (frS S) = bud S + (2 * cap (sN S + 1) - 2 * cap (sN S)) := by
  have h1 := cap_mono (show sN S ≤ sN S + 1 by omega)
  show 2 * cap (sN S + 1) + 6 * cap (sR S) = 2 * cap (sN S) + 6 * cap (sR S) + _
  omega
theorem bud_dr2 (S : SC) (p q : Int32) : bud (dr2S S p q) = bud S + ((2 * cap (sN S + 1) - 2 * cap (sN S)) + (6 * cap (sR S + 1) - 6 * cap (sR S))) := by
  have h1 := cap_mono (show sN S ≤ sN S + 1 by omega)
  have h2 := cap_mono (show sR S ≤ sR S + 1 by omega)
  show 2 * cap (sN S + 1) + 6 * cap (sR S + 1) = 2 * cap (sN S) + 6 * cap (sR S) + _
  omega
theorem bud_snd (S : SC) (e : Nat) (mask s : Int32) (i : Nat) : bud (sndS S e mask s i) = bud S + (6 * cap (sR (sndS S e mask s i)) - 6 * cap (sR S)) := by
  have h2 := cap_mono (tq_snd S e mask s i).2.2.2.2.2.2
  unfold bud
  rw [snd_n]
  omega
theorem bud_pk (S : SC) (e : Nat) (sel : Nat → Bool) (s : Int32) (i : Nat) : bud (pkS S e sel s i) = bud S + (6 * cap (sR (pkS S e sel s i)) - 6 * cap (sR S)) := by
  have h2 := cap_mono (tq_pk S e sel s i).2.2.2.2.2.2
  unfold bud
  rw [pk_n]
  omega
theorem bud_tr (S : SC) (e : Nat) (K B U : Nat → Int32) : bud (trS S e K B U) = bud S := rfl
theorem bud_6 (S : SC) (e : Nat) (x : Int32) : bud (st1 S 6 e x) = bud S := rfl
def kMP (k : Nat) : Bool := kN k || k == 14 || k == 15 || k == 16
theorem kS_kMP {k : Nat} (h : kMP k = false) : kS k = false := by
  simp only [kMP, kN, Bool.or_eq_false_iff] at h
  exact h.1.1.1.1
theorem kN_kMP {k : Nat} (h : kMP k = false) : kN k = false := by
  simp only [kMP, Bool.or_eq_false_iff] at h
  exact h.1.1.1
set_option maxRecDepth 100000 in
set_option maxHeartbeats 4000000 in
theorem c_makePath (l : Launch) (d : gh_D) (g : gh_H) {Z : ZC} {S : SC} {n : Nat} (hX : cX g Z S n) (e a : Nat) (he : e < n) (ha : a < 2 ^ S.1 2 e) (hcl : S.2.1 4 e = nI a) (hP60 : sP S ≤ 60) (hl : ∀ i, i < sP S → S.2.1 14 i = nI e → ∃ a, a < 16 ∧ S.2.1 15 i = nI a) (hbig : sR (mpS S e a (S.1 2 e)).1 + 100 ≤ 4096) (hbn : sN (mpS S e a (S.1 2 e)).1 + 10 ≤ 4096) : gh_C l d mG_makePath (rr 8 1200 (bud (mpS S e a (S.1 2 e)).1 - bud S)) [.ref (Z 1 0), .ref (Z 12 e)] g (fun v g1 => v = some (.int (mpS S e a (S.1 2 e)).2) ∧ cX g1 Z (mpS S e a (S.1 2 e)).1 n ∧ fr kMP g g1) := by
  refine gh_of [some (.ref (Z 1 0)), some (.ref (Z 12 e)), none, none, none, none, none, none] (by decide) rfl (Nat.le_of_ble_eq_true rfl) (by simp [Value.category]) (fun z C hQ => ?_)
  show gh_W l d z 0 [some (.ref (Z 1 0)), some (.ref (Z 12 e)), none, none, none, none, none, none] [] g 1200 (bud (mpS S e a (S.1 2 e)).1 - bud S)
  have hD := (hX.2.2.1.2 e he).2.2.2.2.2
  have h16 := pow_le _ hD
  have hfin : ∀ h, h ≤ S.1 2 e → tq (mpL S e a h).1 (mpS S e a (S.1 2 e)).1 := fun h hh => (tq_mpLm S e a hh).trans (tq_nx _ _)
  have loop : ∀ (c h : Nat) (g1 : gh_H) (y5 y6 y7 : Option Value), h + c = S.1 2 e → cX g1 Z (mpL S e a h).1 n → fr kMP g g1 → gh_W l d z 32 [some (.ref (Z 1 0)), some (.ref (Z 12 e)), some (.int (nI a)), some (.int (mpL S e a h).2), some (.int (nI (h + 1))), y5, y6, y7] [] g1 (285 * c + 5) (bud (mpS S e a (S.1 2 e)).1 - bud (mpL S e a h).1) := by
    intro c
    induction c with
    | zero =>
      intro h g1 y5 y6 y7 hi hX1 hf1
      have hi : h = S.1 2 e := by omega
      have ht := tq_mpL S e a h
      have hfh := hfin h (by omega)
      have hb := bud_m hfh
      have hn1 := hfh.2.2.2.2.2.1
      have hr1 := hfh.2.2.2.2.2.2
      have eD : (mpL S e a h).1.1 2 e = S.1 2 e := by rw [ht.2.1]
      obtain ⟨ao1, x11, x21, x31, hs1, -⟩ := id hX1.2.1
      refine gh_iload C dG_makePath_32 rfl ?_
      refine gh_aload_n C dG_makePath_34 rfl ?_
      refine gh_get C fG_60 (hX1.2.2.1.2 e he).1 rfl dG_makePath_35 ?_
      refine gh_get C fG_212 (hX1.2.2.1.2 e he).2.1 rfl dG_makePath_38 ?_
      refine gh_icmp_gt C 187 dG_makePath_41 (by decide) (fun c41 => ?_) (fun c41 => ?_)
      ·
        refine gh_iload_n C dG_makePath_187 rfl ?_
        refine gh_iconst C (-1) dG_makePath_188 (by decide) ?_
        refine gh_icmp_ne C 202 dG_makePath_189 (by decide) (fun c189 => ?_) (fun c189 => ?_)
        ·
          have eS : (mpS S e a (S.1 2 e)).1 = dr2S (mpL S e a h).1 (mpL S e a h).2 (-1) := by rw [show (mpS S e a (S.1 2 e)).1 = nxS (mpL S e a (S.1 2 e)).1 (mpL S e a (S.1 2 e)).2 from rfl, ← hi]; exact if_neg c189
          have e2 : (mpS S e a (S.1 2 e)).2 = nI (sN (mpL S e a h).1) := by rw [hi]; rfl
          have eb := bud_dr2 (mpL S e a h).1 (mpL S e a h).2 (-1)
          rw [← eS] at eb
          refine gh_aload_n C dG_makePath_202 rfl ?_
          refine gh_get C fG_12 hX1.1 rfl dG_makePath_203 ?_
          refine gh_iload_n C dG_makePath_206 rfl ?_
          refine gh_callV C [.int ((mpL S e a h).2)] (c_derive l d _ hX1.2.1 hX1.2.2.2.2 (by omega) (by omega) (mpL S e a h).2) lG_288 wS_derive vS_derive hs1 rfl rfl rfl (Nat.le_of_ble_eq_true rfl) ⟨Nat.le_of_ble_eq_true rfl, Nat.le_of_ble_eq_true rfl⟩ (by (try dsimp only [rr]); omega) (by (try dsimp only [rr]); omega) dG_makePath_207 (fun v207 g207 h207 => ?_)
          obtain ⟨rfl, hp2, hf2⟩ := h207
          have hX2 := hX1.dr2 (by omega) (by omega) hp2 hf2
          rw [← eS] at hX2
          refine gh_iret C hQ rfl dG_makePath_210 ?_
          exact ⟨by rw [e2], hX2, hf1.trans (hf2.weak (fun k h => kS_kMP h))⟩
        ·
          have eS : (mpS S e a (S.1 2 e)).1 = frS (mpL S e a h).1 := by rw [show (mpS S e a (S.1 2 e)).1 = nxS (mpL S e a (S.1 2 e)).1 (mpL S e a (S.1 2 e)).2 from rfl, ← hi]; exact if_pos c189
          have e2 : (mpS S e a (S.1 2 e)).2 = nI (sN (mpL S e a h).1) := by rw [hi]; rfl
          have eb := bud_fr (mpL S e a h).1
          rw [← eS] at eb
          refine gh_aload_n C dG_makePath_192 rfl ?_
          refine gh_get C fG_12 hX1.1 rfl dG_makePath_193 ?_
          refine gh_callV C [] (c_fresh l d _ hX1.2.1 hX1.2.2.2.2 (by omega)) lG_64 wS_fresh vS_fresh hs1 rfl rfl rfl (Nat.le_of_ble_eq_true rfl) ⟨Nat.le_of_ble_eq_true rfl, Nat.le_of_ble_eq_true rfl⟩ (by (try dsimp only [rr]); omega) (by (try dsimp only [rr]); omega) dG_makePath_196 (fun v196 g196 h196 => ?_)
          obtain ⟨rfl, hp2, hf2⟩ := h196
          have hX2 := hX1.fresh (by omega) hp2 hf2
          rw [← eS] at hX2
          refine gh_goto C 210 dG_makePath_199 (by decide) ?_
          refine gh_iret C hQ rfl dG_makePath_210 ?_
          exact ⟨by rw [e2], hX2, hf1.trans (hf2.weak (fun k h => kS_kMP h))⟩
      · exact absurd (show nI ((mpL S e a h).1.1 2 e) < nI (h + 1) from nI_lt (by rw [eD]; omega) (by omega)) c41
    | succ c ih =>
      intro h g1 y5 y6 y7 hi hX1 hf1
      have hh : h + 1 ≤ S.1 2 e := by omega
      have ht := tq_mpL S e a h
      have hfh := hfin h (by omega)
      have hfh1 := hfin (h + 1) (by omega)
      have hb := bud_m hfh
      have hb1 := bud_m hfh1
      have hn1 := hfh.2.2.2.2.2.1
      have hr1 := hfh.2.2.2.2.2.2
      have hn2 := hfh1.2.2.2.2.2.1
      have hr2 := hfh1.2.2.2.2.2.2
      have eD : (mpL S e a h).1.1 2 e = S.1 2 e := by rw [ht.2.1]
      have ha16 : a < 16 := by omega
      have hsd := sd_w _ hD h (by omega) a ha
      have hvw := pn_w1 _ hD (h + 1) hh a ha
      have hv31 := tW_le hD
      obtain ⟨T1, eT1⟩ : ∃ T1, T1 = (mpL S e a h).1 := ⟨_, rfl⟩
      obtain ⟨p1, ep1⟩ : ∃ p1, p1 = (mpL S e a h).2 := ⟨_, rfl⟩
      have eN : mpL S e a (h + 1) = mpT T1 e a h p1 := by rw [eT1, ep1]; rfl
      rw [← eT1] at hX1 hfh hb hn1 hr1 eD ht
      rw [← eT1, ← ep1]
      obtain ⟨ao1, x11, x21, x31, hs1, -⟩ := id hX1.2.1
      have inc : ∀ (g3 : gh_H) (p3 : Int32) (z5 z6 z7 : Option Value) (cb sb : Nat), p3 = (mpL S e a (h + 1)).2 → cX g3 Z (mpL S e a (h + 1)).1 n → fr kMP g g3 → 285 * c + 5 ≤ cb → bud (mpS S e a (S.1 2 e)).1 - bud (mpL S e a (h + 1)).1 ≤ sb → gh_W l d z 181 [some (.ref (Z 1 0)), some (.ref (Z 12 e)), some (.int (nI a)), some (.int p3), some (.int (nI (h + 1))), z5, z6, z7] [] g3 cb sb := by
        intro g3 p3 z5 z6 z7 cb sb e3 hX3 hf3 hcb hsb
        rw [e3]
        refine gh_iinc C (nI (h + 1 + 1)) [some (.ref (Z 1 0)), some (.ref (Z 12 e)), some (.int (nI a)), some (.int (mpL S e a (h + 1)).2), some (.int (nI (h + 1 + 1))), z5, z6, z7] dG_makePath_181 rfl (gh_inc (h + 1)) rfl ?_
        refine gh_goto C 32 dG_makePath_184 (by decide) ?_
        refine gh_less C (285 * c + 5) _ hcb hsb ?_
        exact ih (h + 1) g3 _ _ _ (by omega) hX3 hf3
      obtain ⟨rc, erc⟩ : ∃ rc, rc = res (T1.1 2 e) (T1.2.2 2 e) (T1.2.2 4 e) h (sdn a h) := ⟨_, rfl⟩
      have body : ∀ (g2 : gh_H), rc ≠ 0 → cX g2 Z (nxS T1 p1) n → fr kMP g g2 → gh_W l d z 115 [some (.ref (Z 1 0)), some (.ref (Z 12 e)), some (.int (nI a)), some (.int p1), some (.int (nI (h + 1))), some (.int (nI (pn a (h + 1)))), some (.int (nI (sdn a h))), some (.int rc)] [.int (nI (sN T1))] g2 (285 * c + 286) (bud (mpS S e a (S.1 2 e)).1 - bud (nxS T1 p1)) := by
        intro g2 hrc hX2 hf2
        have eM : mpL S e a (h + 1) = mpN (nxS T1 p1) e a h (nI (sN T1)) := by rw [eN]; exact if_neg (by rw [← erc]; exact hrc)
        obtain ⟨T2, eT2⟩ : ∃ T2, T2 = nxS T1 p1 := ⟨_, rfl⟩
        rw [← eT2] at hX2 eM ⊢
        obtain ⟨q, eq⟩ : ∃ q, q = nI (sN T1) := ⟨_, rfl⟩
        rw [← eq] at eM ⊢
        have ht2 : tq T1 T2 := by rw [eT2]; exact tq_nx T1 p1
        have e22 : T2.2.2 = T1.2.2 := by
          rw [eT2]; unfold nxS
          split
          · rfl
          · rfl
        have erc2 : rc = res (T2.1 2 e) (T2.2.2 2 e) (T2.2.2 4 e) h (sdn a h) := by rw [erc, ht2.2.1, e22]
        have e9 : T2.2.1 9 = S.2.1 9 := by rw [ht2.2.2.2.1 9 (by decide) (by decide) (by decide), ht.2.2.2.1 9 (by decide) (by decide) (by decide)]
        obtain ⟨mask, emask⟩ : ∃ mask, mask = rc &&& (lns (T2.2.1 9 e) 16 ^^^ (-1)) := ⟨_, rfl⟩
        obtain ⟨T3, eT3⟩ : ∃ T3, T3 = sndS T2 e mask q 31 := ⟨_, rfl⟩
        obtain ⟨T4, eT4⟩ : ∃ T4, T4 = pkS T3 e (selH T3 h (sdn a h)) q (sP T3) := ⟨_, rfl⟩
        have ht3 : tq T2 T3 := by rw [eT3]; exact tq_snd _ _ _ _ _
        have ht4 : tq T3 T4 := by rw [eT4]; exact tq_pk _ _ _ _ _
        have eM1 : (mpL S e a (h + 1)).1 = st1 (gvS (dr2S T4 q (-1)) e (pn a (h + 1)) (nI (sN T4)) (nI e)) 6 e ((gvS (dr2S T4 q (-1)) e (pn a (h + 1)) (nI (sN T4)) (nI e)).2.1 6 e ||| bitN (pn a (h + 1))) := by
          rw [eM, eT4, eT3, emask, erc2]; rfl
        have eM2 : (mpL S e a (h + 1)).2 = q := by rw [eM]; rfl
        have b2 := bud_m ht2
        have b3 := bud_snd T2 e mask q 31
        have b4 := bud_pk T3 e (selH T3 h (sdn a h)) q (sP T3)
        have b5 := bud_dr2 T4 q (-1)
        rw [← eT3] at b3
        rw [← eT4] at b4
        have b6 : bud (mpL S e a (h + 1)).1 = bud (dr2S T4 q (-1)) := by rw [eM1]; rfl
        have n6 : sN (mpL S e a (h + 1)).1 = sN T4 + 1 := by rw [eM1]; rfl
        have r6 : sR (mpL S e a (h + 1)).1 = sR T4 + 1 := by rw [eM1]; rfl
        have hm3 := bud_m ht3
        have hm4 := bud_m ht4
        have m3 := ht3.2.2.2.2.2
        have m4 := ht4.2.2.2.2.2
        have m2 := ht2.2.2.2.2.2
        have tP : sP T3 = sP S := by
          have h1 := ht3.2.2.1 1 (by decide) (by decide)
          have h2 := ht2.2.2.1 1 (by decide) (by decide)
          have h3 := ht.2.2.1 1 (by decide) (by decide)
          unfold sP; rw [h1, h2, h3]
        have t14 : T3.2.1 14 = S.2.1 14 := by rw [ht3.2.2.2.1 14 (by decide) (by decide) (by decide), ht2.2.2.2.1 14 (by decide) (by decide) (by decide), ht.2.2.2.1 14 (by decide) (by decide) (by decide)]
        have t15 : T3.2.1 15 = S.2.1 15 := by rw [ht3.2.2.2.1 15 (by decide) (by decide) (by decide), ht2.2.2.2.1 15 (by decide) (by decide) (by decide), ht.2.2.2.1 15 (by decide) (by decide) (by decide)]
        obtain ⟨ao2, x12, x22, x32, hs2, -⟩ := id hX2.2.1
        refine gh_istore_n C [some (.ref (Z 1 0)), some (.ref (Z 12 e)), some (.int (nI a)), some (.int q), some (.int (nI (h + 1))), some (.int (nI (pn a (h + 1)))), some (.int (nI (sdn a h))), some (.int rc)] dG_makePath_115 rfl (Nat.le_of_ble_eq_true rfl) ?_
        refine gh_aload_n C dG_makePath_116 rfl ?_
        refine gh_aload_n C dG_makePath_117 rfl ?_
        refine gh_iload C dG_makePath_118 rfl ?_
        refine gh_aload_n C dG_makePath_120 rfl ?_
        refine gh_get C fG_138 (hX2.2.2.1.2 e he).1 rfl dG_makePath_121 ?_
        refine gh_callS C [.int (T2.2.1 9 e)] (c_leafNodes l d _ (T2.2.1 9 e)) lG_291 wG_leafNodes sG_leafNodes rfl rfl (Nat.le_of_ble_eq_true rfl) ⟨Nat.le_of_ble_eq_true rfl, Nat.le_of_ble_eq_true rfl⟩ (Nat.le_of_ble_eq_true rfl) (Nat.le_of_ble_eq_true rfl) dG_makePath_124 (fun v124 g124 h124 => ?_)
        obtain ⟨rfl, rfl⟩ := h124
        refine gh_iconst C (-1) dG_makePath_127 (by decide) ?_
        refine gh_ixor C dG_makePath_128 ?_
        refine gh_iand C dG_makePath_129 ?_
        refine gh_ti (mask) emask.symm ?_
        refine gh_iload_n C dG_makePath_130 rfl ?_
        refine gh_callV C [.ref (Z 12 e), .int mask, .int q] (c_sendToNodes l d _ hX2.1 hX2.2.1 hX2.2.2.2.2 (by omega) hX2.2.2.1 e he mask q) lG_294 wG_sendToNodes vG_sendToNodes hX2.1 rfl rfl rfl (Nat.le_of_ble_eq_true rfl) ⟨Nat.le_of_ble_eq_true rfl, Nat.le_of_ble_eq_true rfl⟩ (by (try dsimp only [rr]); omega) (by rw [← eT3]; (try dsimp only [rr]); omega) dG_makePath_131 (fun v131 g131 h131 => ?_)
        rw [← eT3] at h131
        obtain ⟨rfl, hS3, ok3, hE3, hf3⟩ := h131
        have hX3 : cX _ Z T3 n := hX2.sq (by rw [eT3]; exact sq_snd _ _ _ _ _) hS3 ok3 hE3 hf3
        obtain ⟨ao3, x13, x23, x33, hs3, -⟩ := id hX3.2.1
        refine gh_aload_n C dG_makePath_134 rfl ?_
        refine gh_aload_n C dG_makePath_135 rfl ?_
        refine gh_iload C dG_makePath_136 rfl ?_
        refine gh_iload C dG_makePath_138 rfl ?_
        refine gh_iconst C 1 dG_makePath_140 (by decide) ?_
        refine gh_isub C dG_makePath_141 ?_
        refine gh_ti (nI h) (nI_pred h) ?_
        refine gh_iload_n C dG_makePath_142 rfl ?_
        refine gh_callV C [.ref (Z 12 e), .int (nI (sdn a h)), .int (nI h), .int q] (c_sendToAdded l d _ hX3.1 hX3.2.1 hX3.2.2.2.2 (by rw [tP]; exact hP60) (by omega) hX3.2.2.1 hX3.2.2.2.1 e he (sdn a h) h (pn_lt h (by omega) _ (by omega)) (by omega) q (fun i hi h14 => by rw [tP] at hi; rw [t14] at h14; rw [t15]; exact hl i hi h14)) lG_298 wG_sendToAdded vG_sendToAdded hX3.1 rfl rfl rfl (Nat.le_of_ble_eq_true rfl) ⟨Nat.le_of_ble_eq_true rfl, Nat.le_of_ble_eq_true rfl⟩ (by (try dsimp only [rr]); omega) (by rw [← eT4, ← eT3]; (try dsimp only [rr]); omega) dG_makePath_143 (fun v143 g143 h143 => ?_)
        rw [← eT4] at h143
        obtain ⟨rfl, hS4, ok4, hE4, hf4⟩ := h143
        have hX4 : cX _ Z T4 n := hX3.sq (by rw [eT4]; exact sq_pk _ _ _ _ _) hS4 ok4 hE4 hf4
        obtain ⟨ao4, x14, x24, x34, hs4, -⟩ := id hX4.2.1
        refine gh_aload_n C dG_makePath_146 rfl ?_
        refine gh_get C fG_60 (hX4.2.2.1.2 e he).1 rfl dG_makePath_147 ?_
        refine gh_iload C dG_makePath_150 rfl ?_
        refine gh_aload_n C dG_makePath_152 rfl ?_
        refine gh_get C fG_12 hX4.1 rfl dG_makePath_153 ?_
        refine gh_iload_n C dG_makePath_156 rfl ?_
        refine gh_callV C [.int q] (c_derive l d _ hX4.2.1 hX4.2.2.2.2 (by omega) (by omega) q) lG_288 wS_derive vS_derive hs4 rfl rfl rfl (Nat.le_of_ble_eq_true rfl) ⟨Nat.le_of_ble_eq_true rfl, Nat.le_of_ble_eq_true rfl⟩ (by (try dsimp only [rr]); omega) (by rw [← eT4, ← eT3]; (try dsimp only [rr]); omega) dG_makePath_157 (fun v157 g157 h157 => ?_)
        obtain ⟨rfl, hp5, hf5⟩ := h157
        have hX5 := hX4.dr2 (by omega) (by omega) hp5 hf5
        obtain ⟨ao5, x15, x25, x35, hs5, -⟩ := id hX5.2.1
        refine gh_aload_n C dG_makePath_160 rfl ?_
        refine gh_get C fG_158 (hX5.2.2.1.2 e he).1 rfl dG_makePath_161 ?_
        refine gh_callV C [.int (nI (pn a (h + 1))), .int (nI (sN T4)), .int (nI e)] (c_give l d _ (hX5.2.2.1.2 e he).2 (nI (pn a (h + 1))) (nI (sN T4)) (nI e)) lG_68 wT_give vT_give (hX5.2.2.1.2 e he).2.1 rfl rfl rfl (Nat.le_of_ble_eq_true rfl) ⟨Nat.le_of_ble_eq_true rfl, Nat.le_of_ble_eq_true rfl⟩ (Nat.le_of_ble_eq_true rfl) (Nat.le_of_ble_eq_true rfl) dG_makePath_164 (fun v164 g164 h164 => ?_)
        obtain ⟨rfl, rfl⟩ := h164
        have hw5 : pn a (h + 1) < tW ((dr2S T4 q (-1)).1 2 e) := by rw [show (dr2S T4 q (-1)).1 2 = T4.1 2 from rfl, ht4.2.1, ht3.2.1, ht2.2.1, ht.2.1]; exact hvw
        rw [tput_n (hX5.2.2.1.2 e he).2.2.2.2.2 hw5, tput_n (hX5.2.2.1.2 e he).2.2.2.2.2 hw5, tput_n (hX5.2.2.1.2 e he).2.2.2.2.2 hw5]
        have hX6 : cX _ Z (gvS (dr2S T4 q (-1)) e (pn a (h + 1)) (nI (sN T4)) (nI e)) n := hX5.tr (e := e) _ _ _
        obtain ⟨ao6, x16, x26, x36, hs6, -⟩ := id hX6.2.1
        refine gh_aload_n C dG_makePath_167 rfl ?_
        refine gh_dup C dG_makePath_168 rfl ?_
        refine gh_get C fG_218 (hX6.2.2.1.2 e he).1 rfl dG_makePath_169 ?_
        refine gh_iload C dG_makePath_172 rfl ?_
        refine gh_callS C [.int (nI (pn a (h + 1)))] (c_bit l d _ (nI (pn a (h + 1)))) lG_239 wG_bit sG_bit rfl rfl (Nat.le_of_ble_eq_true rfl) ⟨Nat.le_of_ble_eq_true rfl, Nat.le_of_ble_eq_true rfl⟩ (Nat.le_of_ble_eq_true rfl) (Nat.le_of_ble_eq_true rfl) dG_makePath_174 (fun v174 g174 h174 => ?_)
        obtain ⟨rfl, rfl⟩ := h174
        refine gh_ior C dG_makePath_177 ?_
        refine gh_putL C [.int (nI e), .ref (Z 13 e), .int ((gvS (dr2S T4 q (-1)) e (pn a (h + 1)) (nI (sN T4)) (nI e)).2.1 4 e), .int ((gvS (dr2S T4 q (-1)) e (pn a (h + 1)) (nI (sN T4)) (nI e)).2.1 5 e), .int (((gvS (dr2S T4 q (-1)) e (pn a (h + 1)) (nI (sN T4)) (nI e)).2.1 6 e) ||| (bitN (pn a (h + 1)))), .int ((gvS (dr2S T4 q (-1)) e (pn a (h + 1)) (nI (sN T4)) (nI e)).2.1 7 e), .int ((gvS (dr2S T4 q (-1)) e (pn a (h + 1)) (nI (sN T4)) (nI e)).2.1 8 e), .int ((gvS (dr2S T4 q (-1)) e (pn a (h + 1)) (nI (sN T4)) (nI e)).2.1 9 e), .int ((gvS (dr2S T4 q (-1)) e (pn a (h + 1)) (nI (sN T4)) (nI e)).2.1 10 e)] pG_218 (by decide) (hX6.2.2.1.2 e he).1 rfl (by simp) rfl rfl dG_makePath_178 ?_
        have hX7 := hX6.ep (e := e) 6 ((gvS (dr2S T4 q (-1)) e (pn a (h + 1)) (nI (sN T4)) (nI e)).2.1 6 e ||| bitN (pn a (h + 1))) (by decide)
        rw [← eM1] at hX7
        refine inc _ q _ _ _ _ _ eM2.symm ?_ ?_ ?_ ?_
        · simpa [eM1, st1] using hX7
        · exact ((((hf2.trans (hf3.weak (fun k h => kN_kMP h))).trans (hf4.weak (fun k h => kN_kMP h))).trans (hf5.weak (fun k h => kS_kMP h))).trans (fr_tset rfl rfl rfl)).trans (fr.rf.u rfl)
        · (try dsimp only [rr]); omega
        · rw [← eT4, ← eT3]; (try dsimp only [rr]); omega
      refine gh_iload C dG_makePath_32 rfl ?_
      refine gh_aload_n C dG_makePath_34 rfl ?_
      refine gh_get C fG_60 (hX1.2.2.1.2 e he).1 rfl dG_makePath_35 ?_
      refine gh_get C fG_212 (hX1.2.2.1.2 e he).2.1 rfl dG_makePath_38 ?_
      refine gh_icmp_gt C 187 dG_makePath_41 (by decide) (fun c41 => ?_) (fun c41 => ?_)
      · exact absurd c41 (show ¬ nI (T1.1 2 e) < nI (h + 1) from nI_nlt (by rw [eD]; omega) (by rw [eD]; omega))
      ·
        refine gh_iload_n C dG_makePath_44 rfl ?_
        refine gh_iload C dG_makePath_45 rfl ?_
        refine gh_callS C [.int (nI a), .int (nI (h + 1))] (c_pathNode l d _ a (h + 1) ha16 (by omega)) lG_279 wG_pathNode sG_pathNode rfl rfl (Nat.le_of_ble_eq_true rfl) ⟨Nat.le_of_ble_eq_true rfl, Nat.le_of_ble_eq_true rfl⟩ (Nat.le_of_ble_eq_true rfl) (Nat.le_of_ble_eq_true rfl) dG_makePath_47 (fun v47 g47 h47 => ?_)
        obtain ⟨rfl, rfl⟩ := h47
        refine gh_istore C [some (.ref (Z 1 0)), some (.ref (Z 12 e)), some (.int (nI a)), some (.int p1), some (.int (nI (h + 1))), some (.int (nI (pn a (h + 1)))), y6, y7] dG_makePath_50 rfl (Nat.le_of_ble_eq_true rfl) ?_
        refine gh_iload_n C dG_makePath_52 rfl ?_
        refine gh_iload C dG_makePath_53 rfl ?_
        refine gh_callS C [.int (nI a), .int (nI (h + 1))] (c_sideNode l d _ a h ha16 (by omega)) lG_282 wG_sideNode sG_sideNode rfl rfl (Nat.le_of_ble_eq_true rfl) ⟨Nat.le_of_ble_eq_true rfl, Nat.le_of_ble_eq_true rfl⟩ (Nat.le_of_ble_eq_true rfl) (Nat.le_of_ble_eq_true rfl) dG_makePath_55 (fun v55 g55 h55 => ?_)
        obtain ⟨rfl, rfl⟩ := h55
        refine gh_istore C [some (.ref (Z 1 0)), some (.ref (Z 12 e)), some (.int (nI a)), some (.int p1), some (.int (nI (h + 1))), some (.int (nI (pn a (h + 1)))), some (.int (nI (sdn a h))), y7] dG_makePath_58 rfl (Nat.le_of_ble_eq_true rfl) ?_
        refine gh_aload_n C dG_makePath_60 rfl ?_
        refine gh_get C fG_60 (hX1.2.2.1.2 e he).1 rfl dG_makePath_61 ?_
        refine gh_iload C dG_makePath_64 rfl ?_
        refine gh_iload C dG_makePath_66 rfl ?_
        refine gh_iconst C 1 dG_makePath_68 (by decide) ?_
        refine gh_isub C dG_makePath_69 ?_
        refine gh_ti (nI h) (nI_pred h) ?_
        refine gh_callV C [.int (nI (sdn a h)), .int (nI h)] (c_res l d _ (hX1.2.2.1.2 e he).2 h (sdn a h) (by omega) (pn_lo h (by omega) _ (by omega)).1 (pn_lo h (by omega) _ (by omega)).2) lG_203 wT_resolution vT_resolution (hX1.2.2.1.2 e he).2.1 rfl rfl rfl (Nat.le_of_ble_eq_true rfl) ⟨by show h + 3 + 1 ≤ 8; omega, by show 8 + (4 + 11) + 40 * (h + 3) ≤ 40 * 8; omega⟩ (Nat.le_of_ble_eq_true rfl) (Nat.le_of_ble_eq_true rfl) dG_makePath_70 (fun v70 g70 h70 => ?_)
        obtain ⟨rfl, rfl⟩ := h70
        rw [← erc]
        refine gh_istore C [some (.ref (Z 1 0)), some (.ref (Z 12 e)), some (.int (nI a)), some (.int p1), some (.int (nI (h + 1))), some (.int (nI (pn a (h + 1)))), some (.int (nI (sdn a h))), some (.int rc)] dG_makePath_73 rfl (Nat.le_of_ble_eq_true rfl) ?_
        refine gh_iload C dG_makePath_75 rfl ?_
        refine gh_if_ne C 92 dG_makePath_77 (by decide) (fun c77 => ?_) (fun c77 => ?_)
        ·
          refine gh_iload_n C dG_makePath_92 rfl ?_
          refine gh_iconst C (-1) dG_makePath_93 (by decide) ?_
          refine gh_icmp_ne C 107 dG_makePath_94 (by decide) (fun c94 => ?_) (fun c94 => ?_)
          ·
            have eX : nxS T1 p1 = dr2S T1 p1 (-1) := if_neg c94
            have b7 := bud_dr2 T1 p1 (-1)
            rw [← eX] at b7
            refine gh_aload_n C dG_makePath_107 rfl ?_
            refine gh_get C fG_12 hX1.1 rfl dG_makePath_108 ?_
            refine gh_iload_n C dG_makePath_111 rfl ?_
            have hnx : tq (nxS T1 p1) (mpL S e a (h + 1)).1 := by rw [eN]; rw [show mpT T1 e a h p1 = mpN (nxS T1 p1) e a h (nI (sN T1)) from if_neg (by rw [← erc]; exact c77)]; exact tq_mpN _ _ _ _ _
            have b8 := bud_m hnx
            refine gh_callV C [.int p1] (c_derive l d _ hX1.2.1 hX1.2.2.2.2 (by omega) (by omega) p1) lG_288 wS_derive vS_derive hs1 rfl rfl rfl (Nat.le_of_ble_eq_true rfl) ⟨Nat.le_of_ble_eq_true rfl, Nat.le_of_ble_eq_true rfl⟩ (by (try dsimp only [rr]); omega) (by (try dsimp only [rr]); omega) dG_makePath_112 (fun v112 g112 h112 => ?_)
            obtain ⟨rfl, hp2, hf2⟩ := h112
            have hX2 := hX1.dr2 (by omega) (by omega) hp2 hf2
            rw [← eX] at hX2
            refine gh_less C (285 * c + 286) (bud (mpS S e a (S.1 2 e)).1 - bud (nxS T1 p1)) (by (try dsimp only [rr]); omega) (by (try dsimp only [rr]); omega) ?_
            exact body _ c77 hX2 (hf1.trans (hf2.weak (fun k h => kS_kMP h)))
          ·
            have eX : nxS T1 p1 = frS T1 := if_pos c94
            have b7 := bud_fr T1
            rw [← eX] at b7
            refine gh_aload_n C dG_makePath_97 rfl ?_
            refine gh_get C fG_12 hX1.1 rfl dG_makePath_98 ?_
            have hnx : tq (nxS T1 p1) (mpL S e a (h + 1)).1 := by rw [eN]; rw [show mpT T1 e a h p1 = mpN (nxS T1 p1) e a h (nI (sN T1)) from if_neg (by rw [← erc]; exact c77)]; exact tq_mpN _ _ _ _ _
            have b8 := bud_m hnx
            refine gh_callV C [] (c_fresh l d _ hX1.2.1 hX1.2.2.2.2 (by omega)) lG_64 wS_fresh vS_fresh hs1 rfl rfl rfl (Nat.le_of_ble_eq_true rfl) ⟨Nat.le_of_ble_eq_true rfl, Nat.le_of_ble_eq_true rfl⟩ (by (try dsimp only [rr]); omega) (by (try dsimp only [rr]); omega) dG_makePath_101 (fun v101 g101 h101 => ?_)
            obtain ⟨rfl, hp2, hf2⟩ := h101
            have hX2 := hX1.fresh (by omega) hp2 hf2
            rw [← eX] at hX2
            refine gh_goto C 115 dG_makePath_104 (by decide) ?_
            refine gh_less C (285 * c + 286) (bud (mpS S e a (S.1 2 e)).1 - bud (nxS T1 p1)) (by (try dsimp only [rr]); omega) (by (try dsimp only [rr]); omega) ?_
            exact body _ c77 hX2 (hf1.trans (hf2.weak (fun k h => kS_kMP h)))
        ·
          have hz : rc = 0 := c77
          have eM : mpL S e a (h + 1) = (gvS T1 e (pn a (h + 1)) (-1) (-1), p1) := by rw [eN]; exact if_pos (by rw [← erc]; exact hz)
          have b6 : bud (mpL S e a (h + 1)).1 = bud T1 := by rw [eM]; rfl
          refine gh_aload_n C dG_makePath_80 rfl ?_
          refine gh_get C fG_60 (hX1.2.2.1.2 e he).1 rfl dG_makePath_81 ?_
          refine gh_iload C dG_makePath_84 rfl ?_
          refine gh_callV C [.int (nI (pn a (h + 1)))] (c_blank l d _ (hX1.2.2.1.2 e he).2 (nI (pn a (h + 1)))) lG_285 wT_blank vT_blank (hX1.2.2.1.2 e he).2.1 rfl rfl rfl (Nat.le_of_ble_eq_true rfl) ⟨Nat.le_of_ble_eq_true rfl, Nat.le_of_ble_eq_true rfl⟩ (Nat.le_of_ble_eq_true rfl) (Nat.le_of_ble_eq_true rfl) dG_makePath_86 (fun v86 g86 h86 => ?_)
          obtain ⟨rfl, rfl⟩ := h86
          have hw5 : pn a (h + 1) < tW (T1.1 2 e) := by rw [eD]; exact hvw
          rw [tput_n (hX1.2.2.1.2 e he).2.2.2.2.2 hw5, tput_n (hX1.2.2.1.2 e he).2.2.2.2.2 hw5, tput_n (hX1.2.2.1.2 e he).2.2.2.2.2 hw5]
          have hX6 : cX _ Z (gvS T1 e (pn a (h + 1)) (-1) (-1)) n := hX1.tr (e := e) _ _ _
          refine gh_goto C 181 dG_makePath_89 (by decide) ?_
          refine inc _ p1 _ _ _ _ _ (by rw [eM]) ?_ (hf1.trans (fr_tset rfl rfl rfl)) ?_ ?_
          · rw [eM]; exact hX6
          · (try dsimp only [rr]); omega
          · (try dsimp only [rr]); omega
  have hf0 := hfin 0 (Nat.zero_le _)
  have hn0 := hf0.2.2.2.2.2.1
  have hr0 := hf0.2.2.2.2.2.2
  have hb0 := bud_m hf0
  have b0 : bud (mpL S e a 0).1 = bud (frS S) := rfl
  have b1 := bud_fr S
  have n0 : sN (mpL S e a 0).1 = sN S + 1 := rfl
  have r0 : sR (mpL S e a 0).1 = sR S := rfl
  have hvw := leaf_w _ hD a ha
  obtain ⟨ao0, x10, x20, x30, hs0, -⟩ := id hX.2.1
  refine gh_aload_n C dG_makePath_0 rfl ?_
  refine gh_get C fG_215 (hX.2.2.1.2 e he).1 rfl dG_makePath_1 ?_
  refine gh_ti (nI a) hcl ?_
  refine gh_istore_n C [some (.ref (Z 1 0)), some (.ref (Z 12 e)), some (.int (nI a)), none, none, none, none, none] dG_makePath_4 rfl (Nat.le_of_ble_eq_true rfl) ?_
  refine gh_aload_n C dG_makePath_5 rfl ?_
  refine gh_get C fG_60 (hX.2.2.1.2 e he).1 rfl dG_makePath_6 ?_
  refine gh_iload_n C dG_makePath_9 rfl ?_
  refine gh_callS C [.int (nI a)] (c_leafNode l d _ (nI a)) lG_233 wG_leafNode sG_leafNode rfl rfl (Nat.le_of_ble_eq_true rfl) ⟨Nat.le_of_ble_eq_true rfl, Nat.le_of_ble_eq_true rfl⟩ (Nat.le_of_ble_eq_true rfl) (Nat.le_of_ble_eq_true rfl) dG_makePath_10 (fun v10 g10 h10 => ?_)
  obtain ⟨rfl, rfl⟩ := h10
  rw [two_n a]
  refine gh_aload_n C dG_makePath_13 rfl ?_
  refine gh_get C fG_12 hX.1 rfl dG_makePath_14 ?_
  refine gh_callV C [] (c_fresh l d _ hX.2.1 hX.2.2.2.2 (by omega)) lG_64 wS_fresh vS_fresh hs0 rfl rfl rfl (Nat.le_of_ble_eq_true rfl) ⟨Nat.le_of_ble_eq_true rfl, Nat.le_of_ble_eq_true rfl⟩ (by (try dsimp only [rr]); omega) (by (try dsimp only [rr]); omega) dG_makePath_17 (fun v17 g17 h17 => ?_)
  obtain ⟨rfl, hp1, hf1⟩ := h17
  have hX1 := hX.fresh (by omega) hp1 hf1
  obtain ⟨ao1, x11, x21, x31, hs1, -⟩ := id hX1.2.1
  refine gh_aload_n C dG_makePath_20 rfl ?_
  refine gh_get C fG_158 (hX1.2.2.1.2 e he).1 rfl dG_makePath_21 ?_
  refine gh_callV C [.int (nI (2 * a)), .int (nI (sN S)), .int (nI e)] (c_give l d _ (hX1.2.2.1.2 e he).2 (nI (2 * a)) (nI (sN S)) (nI e)) lG_68 wT_give vT_give (hX1.2.2.1.2 e he).2.1 rfl rfl rfl (Nat.le_of_ble_eq_true rfl) ⟨Nat.le_of_ble_eq_true rfl, Nat.le_of_ble_eq_true rfl⟩ (Nat.le_of_ble_eq_true rfl) (Nat.le_of_ble_eq_true rfl) dG_makePath_24 (fun v24 g24 h24 => ?_)
  obtain ⟨rfl, rfl⟩ := h24
  rw [tput_n (hX1.2.2.1.2 e he).2.2.2.2.2 hvw, tput_n (hX1.2.2.1.2 e he).2.2.2.2.2 hvw, tput_n (hX1.2.2.1.2 e he).2.2.2.2.2 hvw]
  have hX2 : cX _ Z (gvS (frS S) e (2 * a) (nI (sN S)) (nI e)) n := hX1.tr (e := e) _ _ _
  refine gh_iconst C (-1) dG_makePath_27 (by decide) ?_
  refine gh_istore_n C [some (.ref (Z 1 0)), some (.ref (Z 12 e)), some (.int (nI a)), some (.int (-1)), none, none, none, none] dG_makePath_28 rfl (Nat.le_of_ble_eq_true rfl) ?_
  refine gh_iconst C 1 dG_makePath_29 (by decide) ?_
  refine gh_istore C [some (.ref (Z 1 0)), some (.ref (Z 12 e)), some (.int (nI a)), some (.int (-1)), some (.int 1), none, none, none] dG_makePath_30 rfl (Nat.le_of_ble_eq_true rfl) ?_
  refine gh_less C (285 * S.1 2 e + 5) (bud (mpS S e a (S.1 2 e)).1 - bud (mpL S e a 0).1) (by (try dsimp only [rr]); omega) (by (try dsimp only [rr]); omega) ?_
  exact loop (S.1 2 e) 0 _ _ _ _ (by omega) hX2 ((hf1.weak (fun k h => kS_kMP h)).trans (fr_tset rfl rfl rfl))
