/-! THE LAW: calls that change, one by one -/
def LB (S : SC) (rem cb sb : Nat) : Prop := 1420 * (60 - sE S) + 4 * rem ≤ cb ∧ 110 * (60 - sE S) + 10 * rem + (32768 - bud S) ≤ sb
def CE (ax ay ao : Nat) (g : gh_H) (S : SC) (k w : Int32) : Prop := ∃ (Z : ZC) (y : Nat → Nat) (R : SR) (f0 : Nat → Int64), Z 1 0 = ax ∧ y 0 = ay ∧ cA g Z S (sE S) ∧ rR g y R ∧ J S R ∧ g (50, 0) = some (ao, .inl (3, 1, .inr (.inl f0))) ∧ nI (R.1 0) = k ∧ (k = 0 → f0 (0 : Int32).toNatClampNeg = w.toInt64)
def CP (l : Launch) (d : gh_D) (ax ay ao : Nat) (mH : gh_M) (hh : gh_HH) (mR : gh_M) (As : List Value) (g : gh_H) (S : SC) : Prop := ∃ (c s : Nat) (k : Int32) (n : Nat) (S2 : SC), n ≤ 10 ∧ (∀ rem cb sb, LB S (rem + 1) cb sb → c ≤ cb ∧ s ≤ sb ∧ LB S2 rem (cb - c) (sb - s)) ∧ ∃ Po, gh_CW l d mH hh (rr 12 c s) (.ref ax :: (As ++ [.ref ao])) g Po ∧ ∀ v g1, Po v g1 → v = some (.int k) ∧ (∃ (y : Nat → Nat) (R : SR), y 0 = ay ∧ rR g1 y R) ∧ ∃ Po2, gh_C l d mR (rr n 0 0) (.ref ay :: As) g1 Po2 ∧ ∀ v2 g2, Po2 v2 g2 → ∃ w : Int32, v2 = some (.int w) ∧ CE ax ay ao g2 S2 k w
theorem bud_le (S : SC) : bud S ≤ 32768 := by
  have h1 := cap_le (sN S)
  have h2 := cap_le (sR S)
  unfold bud; omega
theorem LB_st {S S2 : SC} {c s : Nat} (hc : c ≤ 4) (hs : s ≤ 10 + (bud S2 - bud S)) (hb : bud S ≤ bud S2) (hE : sE S2 = sE S) : ∀ rem cb sb, LB S (rem + 1) cb sb → c ≤ cb ∧ s ≤ sb ∧ LB S2 rem (cb - c) (sb - s) := by
  rintro rem cb sb ⟨h1, h2⟩
  have h3 := bud_le S2
  unfold LB
  rw [hE]
  refine ⟨by omega, by omega, by omega, by omega⟩
theorem LB_cm {S S2 : SC} {c s : Nat} (hc : c ≤ 1420) (hs : s ≤ 110 + (bud S2 - bud S)) (hb : bud S ≤ bud S2) (hE : sE S2 = sE S + 1) (hE6 : sE S < 60) : ∀ rem cb sb, LB S (rem + 1) cb sb → c ≤ cb ∧ s ≤ sb ∧ LB S2 rem (cb - c) (sb - s) := by
  rintro rem cb sb ⟨h1, h2⟩
  have h3 := bud_le S2
  unfold LB
  rw [hE]
  refine ⟨by omega, by omega, by omega, by omega⟩
theorem bud_eq {S S2 : SC} (h1 : sN S2 = sN S) (h2 : sR S2 = sR S) : bud S2 = bud S := by unfold bud; rw [h1, h2]
theorem bud_up {S S2 : SC} (h1 : sN S ≤ sN S2) (h2 : sR S ≤ sR S2) : bud S ≤ bud S2 := by
  have := cap_mono h1
  have := cap_mono h2
  unfold bud; omega
section CC
variable {l : Launch} {d : gh_D} {g : gh_H} {S : SC} {Z : ZC} {y : Nat → Nat} {R : SR} {f0 : Nat → Int64} {ao : Nat}
theorem cp_thr {mH : gh_M} {hh : gh_HH} {mR : gh_M} {As : List Value} {k : Int32} {n t : Nat} {Po2 : Option Value → gh_H → Prop} (hA : cA g Z S (sE S)) (hR : rR g y R) (hJ : J S R) (h5 : g (50, 0) = some (ao, .inl (3, 1, .inr (.inl f0)))) (hn : n ≤ 10) (hk : nI t = k) (hk0 : k ≠ 0)
    (hC : gh_CW l d mH hh (rr 12 1 6) (.ref (Z 1 0) :: (As ++ [.ref ao])) g (fun v g1 => v = some (.int k) ∧ g1 = g)) (hM : gh_C l d mR (rr n 0 0) (.ref (y 0) :: As) g Po2) (hP : ∀ v g2, Po2 v g2 → (∃ w : Int32, v = some (.int w)) ∧ rQ g g2 y (ri R 0 t)) : CP l d (Z 1 0) (y 0) ao mH hh mR As g S := by
  refine ⟨1, 6, k, n, S, hn, LB_st (by omega) (by omega) (Nat.le_refl _) rfl, _, hC, fun v g1 hp => ⟨hp.1, ⟨y, R, rfl, by rw [hp.2]; exact hR⟩, Po2, by rw [hp.2]; exact hM, fun v2 g2 h2 => ?_⟩⟩
  obtain ⟨⟨w, hw⟩, hq⟩ := hP v2 g2 h2
  exact ⟨w, hw, Z, y, ri R 0 t, f0, rfl, rfl, hA.fq hq.2 (fun k hk => kR_l hk), hq.1, J_ri hJ t, hq.2.at (by decide) h5, by rw [← hk]; simp [ri], fun h => absurd h hk0⟩
theorem cp_ok {mH : gh_M} {hh : gh_HH} {mR : gh_M} {As : List Value} {S2 : SC} {a : Int32} {n c s : Nat} {PoC : Option Value → gh_H → Prop} (hR : rR g y R) (hn : n ≤ 10) (hB : ∀ rem cb sb, LB S (rem + 1) cb sb → c ≤ cb ∧ s ≤ sb ∧ LB S2 rem (cb - c) (sb - s))
    (hC : gh_CW l d mH hh (rr 12 c s) (.ref (Z 1 0) :: (As ++ [.ref ao])) g (fun v g1 => v = some (.int 0) ∧ ∃ (w : Int32) (g0 : gh_H), PoC (some (.int w)) g0 ∧ g1 = gh_u g0 (50, 0) (ao, .inl (3, 1, .inr (.inl (vp_updL f0 (0 : Int32).toNatClampNeg w.toInt64))))))
    (hPc : ∀ v g0, PoC v g0 → v = some (.int a) ∧ ∃ Z1 : ZC, Z1 1 0 = Z 1 0 ∧ cA g0 Z1 S2 (sE S2) ∧ fr kA g g0)
    (hM : ∀ g1, rR g1 y R → ∃ Po2, gh_C l d mR (rr n 0 0) (.ref (y 0) :: As) g1 Po2 ∧ ∀ v g2, Po2 v g2 → v = some (.int a) ∧ ∃ R2, rQ g1 g2 y R2 ∧ R2.1 0 = 0 ∧ J S2 R2) : CP l d (Z 1 0) (y 0) ao mH hh mR As g S := by
  refine ⟨c, s, 0, n, S2, hn, hB, _, hC, fun v g1 hp => ?_⟩
  obtain ⟨h0, w, g0, hp0, e1⟩ := hp
  obtain ⟨ew, Z1, z1, hA0, hf⟩ := hPc _ _ hp0
  have ew : w = a := by simpa using ew
  have f1 : fr (fun k => k == 50) g0 g1 := by rw [e1]; exact fr.rf.u rfl
  have hR1 : rR g1 y R := (hR.fq hf (by decide) (by decide)).fq f1 (by decide) (by decide)
  have hA1 : cA g1 Z1 S2 (sE S2) := hA0.fq f1 (fun k hk => by simp; omega)
  obtain ⟨Po2, hM2, hP2⟩ := hM g1 hR1
  refine ⟨h0, ⟨y, R, rfl, hR1⟩, Po2, hM2, fun v2 g2 h2 => ?_⟩
  obtain ⟨hv, R2, hq, hz, hJ2⟩ := hP2 v2 g2 h2
  refine ⟨a, hv, Z1, y, R2, _, z1, rfl, hA1.fq hq.2 (fun k hk => kR_l hk), hq.1, hJ2, hq.2.at (by decide) (by rw [e1]; exact gh_us), by rw [hz]; rfl, fun _ => ?_⟩
  rw [ew]; simp [vp_updL]
theorem cp_offer (htr : l.flags = pinnedFlags ++ [noTraceFlag]) (x : Int32) (hA : cA g Z S (sE S)) (hR : rR g y R) (hJ : J S R) (h5 : g (50, 0) = some (ao, .inl (3, 1, .inr (.inl f0)))) : CP l d (Z 1 0) (y 0) ao mL_offer [(0, 9, 12, 13), (0, 9, 15, 15)] mR_offer [.int x] g S := by
  have hN := J_N hJ
  have hok : okC S := hA.2.2.2.2.2.2.2.2
  obtain ⟨p1, p2⟩ := hJ.1.2.1
  have c1 := hJ.1.2.2.2.1.1
  by_cases hx : inn 16 x = true
  · obtain ⟨m, hm, rfl⟩ := in16 hx
    by_cases hP : R.1 35 = 60
    · have ht : ofT R (nI m) = 2 := by unfold ofT; rw [if_pos hx, if_pos hP]
      exact cp_thr hA hR hJ h5 (n := 1) (by omega) (t := 2) rfl (by decide) (hy_offer (nI m) hA.1 h5 (t_offer2 l htr d g hA m hm (by omega))) (r_offerX l d g hR (nI m) p2 (by rw [ht]; decide)) (fun v g2 hp => ⟨⟨0, hp.1⟩, by rw [ht] at hp; exact hp.2⟩)
    · have e3 : sN (ofS S m) = sN S + 2 := by simp [sN, ofS, frS, stN, st1]
      have e4 : sR (ofS S m) = sR S := by simp [sR, ofS, frS, stN, st1]
      refine cp_ok (a := nI (sP S)) (S2 := ofS S m) hR (n := 1) (by omega) (LB_st (by omega) (by omega) (bud_up (by omega) (by omega)) (by simp [sE, ofS, frS, stN, st1])) (hk_offer (nI m) hA.1 h5 (n := 4) (by omega) (c_offer l d g hA m hm (by omega) (by omega)) (fun v g1 hp => ⟨⟨_, hp.1⟩, by obtain ⟨-, Z1, -, -, hf⟩ := hp; exact hf (50, 0) (by decide)⟩)) (fun v g0 hp => ⟨hp.1, ?_⟩) (fun g1 h1 => ⟨_, r_offer l d g1 h1 m hm (by omega) (by have := hJ.1.2.2.2.1; have := hJ.1.1; have := hJ.1.2.2.1; omega), fun v g2 hp => ⟨by rw [hp.1, p1], _, hp.2, by simp [ofR, mkR, ri, ra], j_off hJ hok hm (by omega)⟩⟩)
      obtain ⟨-, Z1, z1, hA1, hf⟩ := hp
      exact ⟨Z1, z1, by rw [show sE (ofS S m) = sE S by simp [sE, ofS, frS, stN, st1]]; exact hA1, hf⟩
  · have ht : ofT R x = 1 := by unfold ofT; rw [if_neg hx]
    exact cp_thr hA hR hJ h5 (n := 1) (by omega) (t := 1) rfl (by decide) (hx_offer x hA.1 h5 (t_offer1 l htr d g hA x hx)) (r_offerX l d g hR x p2 (by rw [ht]; decide)) (fun v g2 hp => ⟨⟨0, hp.1⟩, by rw [ht] at hp; exact hp.2⟩)
theorem lat_R {S : SC} {R : SR} (h : J S R) {m : Nat} (hm : m < 16) : lat S m = latR R m := by
  obtain ⟨⟨⟨n1, -⟩, -⟩, -, -, -, hM, -⟩ := h
  unfold lat latR
  rw [n1, (hM m hm).1.1]
theorem cp_add (htr : l.flags = pinnedFlags ++ [noTraceFlag]) (x w : Int32) (hA : cA g Z S (sE S)) (hR : rR g y R) (hJ : J S R) (h5 : g (50, 0) = some (ao, .inl (3, 1, .inr (.inl f0)))) : CP l d (Z 1 0) (y 0) ao mL_add [(0, 10, 13, 13), (0, 10, 17, 15)] mR_add [.int x, .int w] g S := by
  have hN := J_N hJ
  obtain ⟨⟨n1, n2, n3⟩, ⟨p1, p2⟩, ⟨q1, q2⟩, -⟩ := hJ.1
  by_cases hx : inn 16 x = true ∧ inn (sP S) w = true
  · obtain ⟨m, hm, rfl⟩ := in16 hx.1
    have hw : inn (R.1 35) w = true := by rw [← p1]; exact hx.2
    by_cases hl : mayp S m = true
    · have hl2 : lat S m = true ∧ sQ S < 20 := by unfold mayp at hl; simpa using hl
      have hlR : latR R m = true := by rw [← lat_R hJ hm]; exact hl2.1
      have ht : asT R (nI m) (if inn (R.1 35) w = true then 1 else 0) = 0 := by
        unfold asT
        rw [if_pos hw, if_pos ⟨hx.1, by decide⟩, nI_clamp (by omega), if_pos ⟨hlR, by omega⟩]
      obtain ⟨b, hb, rfl⟩ := inn_of (by omega) hw
      have h27 : R.2 27 m = nI (R.1 12 - 1) := by unfold latR at hlR; simpa using hlR
      refine cp_ok (a := nI (sQ S + 1)) (S2 := prS S 0 (nI b) (-1)) hR (n := 2) (by omega) (LB_st (by omega) (by omega) (bud_up (by simp [sN, prS, stN, st1]) (by simp [sR, prS, stN, st1])) (by simp [sE, prS, stN, st1])) (hk_add (nI m) (nI b) hA.1 h5 (n := 2) (by omega) (c_add l d g hA m (nI b) hm hx.2 hN.2.1 hN.2.2.2.1 hl2.1 hl2.2) (fun v g1 hp => ⟨⟨_, hp.1⟩, hp.2.2 (50, 0) (by decide)⟩)) (fun v g0 hp => ⟨hp.1, Z, rfl, by rw [show sE (prS S 0 (nI b) (-1)) = sE S by simp [sE, prS, stN, st1]]; exact hp.2.1, hp.2.2⟩) (fun g1 h1 => ⟨_, r_add l d g1 h1 (nI m) (nI b) n2 q2 ht, fun v g2 hp => ⟨by rw [hp.1, q1], _, hp.2, by simp [prR, ri, ra], ?_⟩⟩)
      exact j_prop (J_ri hJ 0) hm h27 (show R.1 42 < 20 by omega) (Or.inl ⟨rfl, hb⟩)
    · have hl0 : ¬ (latR R m = true ∧ R.1 42 ≠ 20) := fun h => hl (by
        unfold mayp; rw [lat_R hJ hm, h.1]; simp; omega)
      have ht : asT R (nI m) (if inn (R.1 35) w = true then 1 else 0) = 2 := by
        unfold asT
        rw [if_pos hw, if_pos ⟨hx.1, by decide⟩, nI_clamp (by omega), if_neg hl0]
      exact cp_thr hA hR hJ h5 (n := 2) (by omega) (t := 2) rfl (by decide) (hy_add (nI m) w hA.1 h5 (t_add2 l htr d g hA m w hm hx.2 hN.2.1 hN.2.2.2.1 hN.2.2.2.2.1 hl)) (r_addX l d g hR (nI m) w n2 q2 (by rw [ht]; decide)) (fun v g2 hp => ⟨⟨0, hp.1⟩, by rw [ht] at hp; exact hp.2⟩)
  · have ht : asT R x (if inn (R.1 35) w = true then 1 else 0) = 1 := by
      unfold asT
      refine if_neg (fun h => hx ⟨h.1, ?_⟩)
      rw [p1]
      by_cases z : inn (R.1 35) w = true
      · exact z
      · have := h.2; rw [if_neg z] at this; exact absurd rfl this
    exact cp_thr hA hR hJ h5 (n := 2) (by omega) (t := 1) rfl (by decide) (hx_add x w hA.1 h5 (t_add1 l htr d g hA x w hx)) (r_addX l d g hR x w n2 q2 (by rw [ht]; decide)) (fun v g2 hp => ⟨⟨0, hp.1⟩, by rw [ht] at hp; exact hp.2⟩)
theorem cp_remove (htr : l.flags = pinnedFlags ++ [noTraceFlag]) (x w : Int32) (hA : cA g Z S (sE S)) (hR : rR g y R) (hJ : J S R) (h5 : g (50, 0) = some (ao, .inl (3, 1, .inr (.inl f0)))) : CP l d (Z 1 0) (y 0) ao mL_remove [(0, 10, 13, 13), (0, 10, 17, 15)] mR_remove [.int x, .int w] g S := by
  have hN := J_N hJ
  obtain ⟨⟨n1, n2, n3⟩, ⟨p1, p2⟩, ⟨q1, q2⟩, -⟩ := hJ.1
  by_cases hx : inn 16 x = true ∧ inn 16 w = true
  · obtain ⟨m, hm, rfl⟩ := in16 hx.1
    have hw := hx.2
    by_cases hl : mayp S m = true
    · have hl2 : lat S m = true ∧ sQ S < 20 := by unfold mayp at hl; simpa using hl
      have hlR : latR R m = true := by rw [← lat_R hJ hm]; exact hl2.1
      have ht : asT R (nI m) (if inn 16 w = true then 1 else 0) = 0 := by
        unfold asT
        rw [if_pos hw, if_pos ⟨hx.1, by decide⟩, nI_clamp (by omega), if_pos ⟨hlR, by omega⟩]
      obtain ⟨b, hb, rfl⟩ := in16 hw
      have h27 : R.2 27 m = nI (R.1 12 - 1) := by unfold latR at hlR; simpa using hlR
      refine cp_ok (a := nI (sQ S + 1)) (S2 := prS S 1 (nI b) (-1)) hR (n := 2) (by omega) (LB_st (by omega) (by omega) (bud_up (by simp [sN, prS, stN, st1]) (by simp [sR, prS, stN, st1])) (by simp [sE, prS, stN, st1])) (hk_remove (nI m) (nI b) hA.1 h5 (n := 2) (by omega) (c_remove l d g hA m (nI b) hm hx.2 hN.2.1 hN.2.2.2.1 hl2.1 hl2.2) (fun v g1 hp => ⟨⟨_, hp.1⟩, hp.2.2 (50, 0) (by decide)⟩)) (fun v g0 hp => ⟨hp.1, Z, rfl, by rw [show sE (prS S 1 (nI b) (-1)) = sE S by simp [sE, prS, stN, st1]]; exact hp.2.1, hp.2.2⟩) (fun g1 h1 => ⟨_, r_remove l d g1 h1 (nI m) (nI b) n2 q2 ht, fun v g2 hp => ⟨by rw [hp.1, q1], _, hp.2, by simp [prR, ri, ra], ?_⟩⟩)
      exact j_prop (J_ri hJ 0) hm h27 (show R.1 42 < 20 by omega) (Or.inr ⟨rfl, hb⟩)
    · have hl0 : ¬ (latR R m = true ∧ R.1 42 ≠ 20) := fun h => hl (by
        unfold mayp; rw [lat_R hJ hm, h.1]; simp; omega)
      have ht : asT R (nI m) (if inn 16 w = true then 1 else 0) = 2 := by
        unfold asT
        rw [if_pos hw, if_pos ⟨hx.1, by decide⟩, nI_clamp (by omega), if_neg hl0]
      exact cp_thr hA hR hJ h5 (n := 2) (by omega) (t := 2) rfl (by decide) (hy_remove (nI m) w hA.1 h5 (t_remove2 l htr d g hA m w hm hx.2 hN.2.1 hN.2.2.2.1 hN.2.2.2.2.1 hl)) (r_removeX l d g hR (nI m) w n2 q2 (by rw [ht]; decide)) (fun v g2 hp => ⟨⟨0, hp.1⟩, by rw [ht] at hp; exact hp.2⟩)
  · have ht : asT R x (if inn 16 w = true then 1 else 0) = 1 := by
      unfold asT
      refine if_neg (fun h => hx ⟨h.1, ?_⟩)
      by_cases z : inn 16 w = true
      · exact z
      · have := h.2; rw [if_neg z] at this; exact absurd rfl this
    exact cp_thr hA hR hJ h5 (n := 2) (by omega) (t := 1) rfl (by decide) (hx_remove x w hA.1 h5 (t_remove1 l htr d g hA x w hx)) (r_removeX l d g hR x w n2 q2 (by rw [ht]; decide)) (fun v g2 hp => ⟨⟨0, hp.1⟩, by rw [ht] at hp; exact hp.2⟩)
theorem cp_update (htr : l.flags = pinnedFlags ++ [noTraceFlag]) (x : Int32) (hA : cA g Z S (sE S)) (hR : rR g y R) (hJ : J S R) (h5 : g (50, 0) = some (ao, .inl (3, 1, .inr (.inl f0)))) : CP l d (Z 1 0) (y 0) ao mL_update [(0, 9, 12, 13), (0, 9, 15, 15)] mR_update [.int x] g S := by
  have hN := J_N hJ
  have hok : okC S := hA.2.2.2.2.2.2.2.2
  obtain ⟨⟨n1, n2, n3⟩, ⟨p1, p2⟩, ⟨q1, q2⟩, ⟨c1, c2, c3⟩, -⟩ := hJ.1
  by_cases hx : inn 16 x = true
  · obtain ⟨m, hm, rfl⟩ := in16 hx
    by_cases hl : mayp S m = true
    · have hl2 : lat S m = true ∧ sQ S < 20 := by unfold mayp at hl; simpa using hl
      have hlR : latR R m = true := by rw [← lat_R hJ hm]; exact hl2.1
      have h27 : R.2 27 m = nI (R.1 12 - 1) := by unfold latR at hlR; simpa using hlR
      obtain ⟨u1, u2, u3⟩ := j_upd (J_ri hJ 0) hok hm h27 (show R.1 42 < 20 by omega)
      have eN : sN (updS S m) = sN S + 1 := by simp [sN, updS, prS, ukS, frS, stN, st1, st2]
      have eR : sR (updS S m) = sR S := by simp [sR, updS, prS, ukS, frS, stN, st1, st2]
      have eE : sE (updS S m) = sE S := by simp [sE, updS, prS, ukS, frS, stN, st1, st2]
      have eb : bud (updS S m) = bud (frS S) := bud_eq (by rw [eN]; simp [sN, frS, stN]) (by rw [eR]; simp [sR, frS, stN])
      refine cp_ok (a := nI (sQ S + 1)) (S2 := updS S m) hR (n := 2) (by omega) (LB_st (by omega) (by rw [eb]; omega) (bud_up (by omega) (by omega)) eE) (hk_update (nI m) hA.1 h5 (n := 4) (by omega) (c_update l d g hA m hm hN.2.2.2.1 hl2.1 hl2.2 u2 (by omega)) (fun v g1 hp => ⟨⟨_, hp.1⟩, hp.2.2 (50, 0) (by decide)⟩)) (fun v g0 hp => ⟨hp.1, Z, rfl, by rw [eE]; exact hp.2.1, hp.2.2⟩) (fun g1 h1 => ⟨_, r_update l d g1 h1 m (S.1 1 m) hm n2 (by omega) (by omega) u1 u2 hlR, fun v g2 hp => ⟨by rw [hp.1, q1], _, hp.2, by simp [prR, ukR, mkR, ri, ra], u3⟩⟩)
    · have hl0 : ¬ (latR R m = true ∧ R.1 42 ≠ 20) := fun h => hl (by
        unfold mayp; rw [lat_R hJ hm, h.1]; simp; omega)
      have ht : asT R (nI m) 1 = 2 := by
        unfold asT
        rw [if_pos ⟨hx, by decide⟩, nI_clamp (by omega), if_neg hl0]
      exact cp_thr hA hR hJ h5 (n := 2) (by omega) (t := 2) rfl (by decide) (hy_update (nI m) hA.1 h5 (t_update2 l htr d g hA m hm hN.2.2.2.1 hN.2.2.2.2.1 hl)) (r_updateX l d g hR (nI m) n2 q2 (by rw [ht]; decide)) (fun v g2 hp => ⟨⟨0, hp.1⟩, by rw [ht] at hp; exact hp.2⟩)
  · have ht : asT R x 1 = 1 := by unfold asT; exact if_neg (fun h => hx h.1)
    exact cp_thr hA hR hJ h5 (n := 2) (by omega) (t := 1) rfl (by decide) (hx_update x hA.1 h5 (t_update1 l htr d g hA x hx)) (r_updateX l d g hR x n2 q2 (by rw [ht]; decide)) (fun v g2 hp => ⟨⟨0, hp.1⟩, by rw [ht] at hp; exact hp.2⟩)
theorem cp_compromise (htr : l.flags = pinnedFlags ++ [noTraceFlag]) (x : Int32) (hA : cA g Z S (sE S)) (hR : rR g y R) (hJ : J S R) (h5 : g (50, 0) = some (ao, .inl (3, 1, .inr (.inl f0)))) : CP l d (Z 1 0) (y 0) ao mL_compromise [(0, 9, 12, 13)] mR_compromise [.int x] g S := by
  have hN := J_N hJ
  have hok : okC S := hA.2.2.2.2.2.2.2.2
  obtain ⟨⟨n1, n2, n3⟩, ⟨p1, p2⟩, -⟩ := hJ.1
  by_cases hx : inn 16 x = true
  · obtain ⟨m, hm, rfl⟩ := in16 hx
    obtain ⟨k1, k2, k3, k4, k5, k6, k7⟩ := j_held (J_ri hJ 0) hm
    refine cp_ok (a := nI (gA S m).length) (S2 := cpS S m) hR (n := 2) (by omega) (c := 0) (s := 0) (LB_st (by omega) (by omega) (bud_up (Nat.le_refl _) (Nat.le_refl _)) rfl) (hk_compromise (nI m) hA.1 h5 (n := 3) (by omega) (c_compromise l d g hA m hm hN.2.1 (hN.2.2.2.2.2 m hm)) (fun v g1 hp => ⟨⟨_, hp.1⟩, hp.2.2 (50, 0) (by decide)⟩)) (fun v g0 hp => ⟨hp.1, Z, rfl, hp.2.1, hp.2.2⟩) (fun g1 h1 => ⟨_, r_compromise l d g1 h1 m (S.1 1 m) hm k7 k1 k2 p2 (fun s hs => ?_), fun v g2 hp => ⟨by rw [hp.1, k3, k5], _, hp.2, ?_, j_cp hJ hok hm⟩⟩)
    · rw [k3] at hs
      obtain ⟨j, j1, j2⟩ := k6 s hs
      have j1 : j < R.1 1 := j1
      exact ⟨j, by omega, j2⟩
    · unfold cpR
      rw [(tkR_f _ _).1, (gaR_f (ri R 0 0) m (S.1 1 m)).1 0 (by decide)]; simp [ri]
  · exact cp_thr hA hR hJ h5 (n := 1) (by omega) (t := 1) rfl (by decide) (hx_compromise x hA.1 h5 (t_compromise1 l htr d g hA x hx)) (r_compromiseX l d g hR x hx) (fun v g2 hp => ⟨⟨0, hp.1⟩, hp.2⟩)
end CC
