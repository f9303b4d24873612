/-! THE LAW: what holds between two calls; the calls that ask -/
theorem rR.fq {P : Nat → Bool} {g g1 : gh_H} {y : Nat → Nat} {R : SR} (h : rR g y R) (hf : fr P g g1) (h1 : P 30 = false) (h2 : P 31 = false) : rR g1 y R := ⟨hf.at h1 h.1, fun f hF => hf.at h2 (h.2 f hF)⟩
def LI (ax ay ao : Nat) (g : gh_H) (S : SC) : Prop := ∃ (Z : ZC) (y : Nat → Nat) (R : SR) (f0 : Nat → Int64), Z 1 0 = ax ∧ y 0 = ay ∧ cA g Z S (sE S) ∧ rR g y R ∧ J S R ∧ g (50, 0) = some (ao, .inl (3, 1, .inr (.inl f0)))
def QP (l : Launch) (d : gh_D) (ax ay ao : Nat) (mC mR : gh_M) (As : List Value) (g : gh_H) (S : SC) : Prop := ∃ (x : Int32) (n n2 : Nat), n ≤ 10 ∧ n2 ≤ 10 ∧ (∃ Po, gh_C l d mC (rr n 0 0) (.ref ax :: As) g Po ∧ ∀ v g1, Po v g1 → v = some (.int x) ∧ LI ax ay ao g1 S) ∧ ∀ g1, LI ax ay ao g1 S → ∃ Po, gh_C l d mR (rr n2 0 0) (.ref ay :: As) g1 Po ∧ ∀ v g2, Po v g2 → v = some (.int x) ∧ LI ax ay ao g2 S
theorem kR_l {k : Nat} (h : k < 23) : kR k = false := by
  unfold kR
  simp; omega
/-- behind a call of the reference -/
theorem LI.ref {ax ay ao : Nat} {g g1 : gh_H} {S : SC} {Z : ZC} {y : Nat → Nat} {R1 : SR} {f0 : Nat → Int64} (hZ : Z 1 0 = ax) (hy : y 0 = ay) (hA : cA g Z S (sE S)) (h5 : g (50, 0) = some (ao, .inl (3, 1, .inr (.inl f0)))) (hQ : rQ g g1 y R1) (hJ : J S R1) : LI ax ay ao g1 S :=
  ⟨Z, y, R1, f0, hZ, hy, hA.fq hQ.2 (fun k hk => kR_l hk), hQ.1, hJ, hQ.2.at (by decide) h5⟩
/-- behind a call of the class that changes nothing of note -/
theorem LI.cls {ax ay ao : Nat} {g g1 : gh_H} {S : SC} {Z : ZC} {y : Nat → Nat} {R : SR} {f0 : Nat → Int64} (hZ : Z 1 0 = ax) (hy : y 0 = ay) (hA : cA g1 Z S (sE S)) (hR : rR g y R) (hJ : J S R) (h5 : g (50, 0) = some (ao, .inl (3, 1, .inr (.inl f0)))) (hf : fr kA g g1) : LI ax ay ao g1 S :=
  ⟨Z, y, R, f0, hZ, hy, hA, hR.fq hf (by decide) (by decide), hJ, hf.at (by decide) h5⟩
theorem J_ri {S : SC} {R : SR} (h : J S R) (n : Nat) : J S (ri R 0 n) := J_c h (fun f hf _ _ => by simp [ri, hf]) (fun f _ _ _ _ _ => rfl)
theorem J_6 {S : SC} {R : SR} (h : J S R) (n : Nat) (f6 : Nat → Int32) : J S (ra (ri R 0 n) 6 f6) := J_c h (fun f hf _ _ => by simp [ra, ri, hf]) (fun f hf _ _ _ _ => by simp [ra, ri, hf])
theorem J_ga {S : SC} {R : SR} (h : J S R) (m uc : Nat) : J S (gaR (ri R 0 0) m uc) := by
  have hg := gaR_f (ri R 0 0) m uc
  exact J_c (J_ri h 0) (fun f _ hf _ => hg.1 f hf) (fun f _ hf _ _ _ => hg.2.1 f hf)
theorem J_rs {S : SC} {R : SR} (h : J S R) (n : Nat) (F O : Nat → Int32) : J S (rs (ri R 0 0) n F O) := J_c h (fun f hf _ h48 => by simp [rs, ra, ri, hf, h48]) (fun f _ _ h49 h50 _ => by simp [rs, ra, ri, h49, h50])
theorem J_N {S : SC} {R : SR} (h : J S R) : R.1 1 ≤ 2600 ∧ sP S ≤ 60 ∧ sE S ≤ 60 ∧ 1 ≤ sE S ∧ sQ S ≤ 20 ∧ (∀ m, m < 16 → S.1 1 m ≤ 20) := by
  obtain ⟨⟨⟨n1, n2, n3⟩, ⟨p1, p2⟩, ⟨q1, q2⟩, ⟨-, -, a7⟩, -⟩, -, -, -, hM, -⟩ := h
  exact ⟨by omega, by omega, by omega, by omega, by omega, fun m hm => (hM m hm).1.2.2.2.2.1⟩
theorem J_wfK {S : SC} {R : SR} (h : J S R) : wfK R := by
  have hN := J_N h
  obtain ⟨⟨⟨n1, n2, n3⟩, ⟨p1, p2⟩, ⟨q1, q2⟩, ⟨c1, c2, a7⟩, a8, -⟩, -, -, -, -, -, -, -, ⟨w1, w2, w3, ⟨w4, w5, w6⟩, w7⟩, -⟩ := h
  have := ucn_le (R.2 39) (R.1 35)
  refine ⟨hN.1, by omega, fun k _ => w5 k, fun k hk h0 h1 => ⟨?_, fun h4 => ?_⟩, w7⟩
  · obtain ⟨b, b1, b2⟩ := w1 k hk h0 h1
    exact ⟨b, by omega, b2⟩
  · obtain ⟨b, b1, b2⟩ := w2 k hk h4
    exact ⟨b, by omega, b2⟩
theorem in16 {x : Int32} (h : inn 16 x = true) : ∃ m, m < 16 ∧ x = nI m := inn_of (by decide) h
section QQ
variable {l : Launch} {d : gh_D} {ax ay ao : Nat} {g : gh_H} {S : SC}
theorem q_epochs (h : LI ax ay ao g S) : QP l d ax ay ao mG_epochs mR_epochs [] g S := by
  obtain ⟨Z, y, R, f0, rfl, rfl, hA, hR, hJ, h5⟩ := h
  refine ⟨nI (sE S), 0, 0, by omega, by omega, ⟨_, c_epochs l d g hA, fun v g1 hp => ⟨hp.1, ?_⟩⟩, fun g1 h1 => ?_⟩
  · rw [hp.2]; exact ⟨Z, y, R, f0, rfl, rfl, hA, hR, hJ, h5⟩
  · obtain ⟨Z1, y1, R1, f1, e1, e2, hA1, hR1, hJ1, h51⟩ := h1
    rw [← e2]
    refine ⟨_, r_epochs l d g1 hR1, fun v g2 hp => ⟨?_, LI.ref e1 rfl hA1 h51 hp.2 (J_ri hJ1 0)⟩⟩
    rw [hp.1, hJ1.1.1.1]
theorem q_waiting (h : LI ax ay ao g S) : QP l d ax ay ao mG_waiting mR_waiting [] g S := by
  obtain ⟨Z, y, R, f0, rfl, rfl, hA, hR, hJ, h5⟩ := h
  refine ⟨nI (sQ S), 0, 0, by omega, by omega, ⟨_, c_waiting l d g hA, fun v g1 hp => ⟨hp.1, ?_⟩⟩, fun g1 h1 => ?_⟩
  · rw [hp.2]; exact ⟨Z, y, R, f0, rfl, rfl, hA, hR, hJ, h5⟩
  · obtain ⟨Z1, y1, R1, f1, e1, e2, hA1, hR1, hJ1, h51⟩ := h1
    rw [← e2]
    refine ⟨_, r_waiting l d g1 hR1, fun v g2 hp => ⟨?_, LI.ref e1 rfl hA1 h51 hp.2 (J_ri hJ1 0)⟩⟩
    rw [hp.1, hJ1.1.2.2.1.1]
theorem a_has {S : SC} {R : SR} (h : J S R) (x : Int32) : rHas R x = qHas S x := by
  have hN := J_N h
  obtain ⟨-, -, hX, -, hM, -⟩ := h
  unfold rHas qHas
  by_cases hx : inn 16 x = true
  · obtain ⟨m, hm, rfl⟩ := in16 hx
    rw [hx, nI_clamp (by omega)]
    rcases (hM m hm).2 with ⟨u1, u2, u3, u4, -⟩ | ⟨e, l, i1, i2, i3, i4, i5, i6, i7, -⟩
    · rw [u3, u4]; rfl
    · obtain ⟨s, s1, s2⟩ := (hX e i2).2
      have : nI s ≠ -1 := nI_ne1 (by omega)
      rw [i6, i7, s2]; simp [this]
  · rw [Bool.not_eq_true] at hx; rw [hx]; rfl
theorem q_has (x : Int32) (h : LI ax ay ao g S) : QP l d ax ay ao mG_has mR_has [.int x] g S := by
  obtain ⟨Z, y, R, f0, rfl, rfl, hA, hR, hJ, h5⟩ := h
  refine ⟨if qHas S x = true then 1 else 0, 1, 1, by omega, by omega, ⟨_, c_has l d g hA x, fun v g1 hp => ⟨hp.1, ?_⟩⟩, fun g1 h1 => ?_⟩
  · rw [hp.2]; exact ⟨Z, y, R, f0, rfl, rfl, hA, hR, hJ, h5⟩
  · obtain ⟨Z1, y1, R1, f1, e1, e2, hA1, hR1, hJ1, h51⟩ := h1
    rw [← e2]
    refine ⟨_, r_has l d g1 hR1 x, fun v g2 hp => ⟨?_, LI.ref e1 rfl hA1 h51 hp.2 (J_ri hJ1 0)⟩⟩
    rw [hp.1, a_has hJ1]
theorem a_ep {S : SC} {R : SR} (h : J S R) (x w : Int32) : rEp R x w = qEp S x w := by
  have hN := J_N h
  obtain ⟨⟨⟨n1, -, -⟩, -⟩, -, hX, ⟨hT, -⟩, -⟩ := h
  unfold rEp qEp
  rw [n1]
  by_cases hx : inn (R.1 12) x = true
  · obtain ⟨e, he, rfl⟩ := inn_of (by omega) hx
    rw [if_pos hx, if_pos hx, nI_clamp (by omega)]
    obtain ⟨y4, y5, y6, y7, y8, y9, y10⟩ := (hX e he).1
    obtain ⟨D, ⟨d1, d2, -⟩, -⟩ := hT e he
    rw [d1, d2, y4, y6, y7, y8, y9, y10]
  · rw [if_neg hx, if_neg hx]
theorem q_epoch (x w : Int32) (h : LI ax ay ao g S) : QP l d ax ay ao mG_epoch mR_epoch [.int x, .int w] g S := by
  obtain ⟨Z, y, R, f0, rfl, rfl, hA, hR, hJ, h5⟩ := h
  have hN := J_N hJ
  refine ⟨qEp S x w, 1, 1, by omega, by omega, ⟨_, c_epoch l d g hA x w hN.2.2.1, fun v g1 hp => ⟨hp.1, ?_⟩⟩, fun g1 h1 => ?_⟩
  · rw [hp.2]; exact ⟨Z, y, R, f0, rfl, rfl, hA, hR, hJ, h5⟩
  · obtain ⟨Z1, y1, R1, f1, e1, e2, hA1, hR1, hJ1, h51⟩ := h1
    rw [← e2]
    refine ⟨_, r_epoch l d g1 hR1 x w hJ1.1.1.2.2, fun v g2 hp => ⟨?_, LI.ref e1 rfl hA1 h51 hp.2 (J_ri hJ1 0)⟩⟩
    rw [hp.1, a_ep hJ1]
theorem a_mem {S : SC} {R : SR} (h : J S R) (x w : Int32) (hw : w ≠ 2) (n : Nat) : rMem R x w n = qMem S x w := by
  obtain ⟨-, -, -, -, hM, -⟩ := h
  unfold rMem qMem
  by_cases hx : inn 16 x = true
  · obtain ⟨m, hm, rfl⟩ := in16 hx
    obtain ⟨g1, g2, g3, -⟩ := (hM m hm).1
    rw [if_pos hx, if_pos hx, nI_clamp (by omega), g1, g2, g3, if_neg hw, if_neg hw]
  · rw [if_neg hx, if_neg hx]
theorem q_member (x w : Int32) (h : LI ax ay ao g S) : QP l d ax ay ao mG_member mR_member [.int x, .int w] g S := by
  obtain ⟨Z, y, R, f0, rfl, rfl, hA, hR, hJ, h5⟩ := h
  have hN := J_N hJ
  refine ⟨qMem S x w, 2, 2, by omega, by omega, ⟨_, c_member l d g hA x w hN.2.1 hN.2.2.2.2.2, fun v g1 hp => ⟨hp.1, LI.cls rfl rfl hp.2.1 hR hJ h5 hp.2.2⟩⟩, fun g1 h1 => ?_⟩
  obtain ⟨Z1, y1, R1, f1, e1, e2, hA1, hR1, hJ1, h51⟩ := h1
  rw [← e2]
  by_cases hw : w = 2
  · subst hw
    by_cases hx : inn 16 x = true
    · obtain ⟨m, hm, rfl⟩ := in16 hx
      obtain ⟨k1, k2, k3, k4, k5, k6, k7⟩ := j_held (J_ri hJ1 0) hm
      refine ⟨_, r_member2 l d g1 hR1 m (S.1 1 m) hm k7 k1 k2 (by have := hJ1.1.2.1; omega), fun v g2 hp => ⟨?_, LI.ref e1 rfl hA1 h51 hp.2 (J_ga hJ1 _ _)⟩⟩
      have e9 : (gaR (ri R1 0 0) m (S.1 1 m)).1 46 = (gA S m).length := by
        rw [k5, ← k3]; simp [lst]
      rw [hp.1, e9]
      unfold qMem
      rw [if_pos hx, if_neg (by decide), if_neg (by decide), if_pos rfl, nI_clamp (by omega)]
    · refine ⟨_, r_member2X l d g1 hR1 x hx, fun v g2 hp => ⟨?_, LI.ref e1 rfl hA1 h51 hp.2 (J_ri hJ1 0)⟩⟩
      rw [hp.1]; unfold qMem; rw [if_neg hx]
  · refine ⟨_, r_member l d g1 hR1 x w hw, fun v g2 hp => ⟨?_, LI.ref e1 rfl hA1 h51 hp.2 (J_ri hJ1 0)⟩⟩
    rw [hp.1, a_mem hJ1 x w hw]
theorem inn_m1 (n : Nat) : ¬ inn n (-1) = true := inn_1 (by decide)
theorem q_holds (x w : Int32) (h : LI ax ay ao g S) : QP l d ax ay ao mG_holds mR_holds [.int x, .int w] g S := by
  obtain ⟨Z, y, R, f0, rfl, rfl, hA, hR, hJ, h5⟩ := h
  have hN := J_N hJ
  refine ⟨if qHo S x w = true then 1 else 0, 2, 2, by omega, by omega, ⟨_, c_holds l d g hA x w hN.2.2.1 hN.2.1 hN.2.2.2.2.2, fun v g1 hp => ⟨hp.1, LI.cls rfl rfl hp.2.1 hR hJ h5 hp.2.2⟩⟩, fun g1 h1 => ?_⟩
  obtain ⟨Z1, y1, R1, f1, e1, e2, hA1, hR1, hJ1, h51⟩ := h1
  rw [← e2]
  by_cases hx : inn 16 x = true
  · obtain ⟨m, hm, rfl⟩ := in16 hx
    have hJ2 := hJ1
    obtain ⟨⟨⟨n1, n2, n3⟩, ⟨p1, p2⟩, -⟩, -, -, ⟨hT, -⟩, hM, -⟩ := hJ2
    obtain ⟨⟨g1', g2', g3', g4, g5, -⟩, g7⟩ := hM m hm
    rcases g7 with ⟨u1, -⟩ | ⟨e, l9, i1, i2, -⟩
    · refine ⟨_, r_holdsN l d g1 hR1 m w hm u1, fun v g2 hp => ⟨?_, LI.ref e1 rfl hA1 h51 hp.2 (J_ri hJ1 0)⟩⟩
      rw [hp.1]
      have : qHo S (nI m) w = false := by
        unfold qHo
        rw [nI_clamp (by omega), g1', u1, Bool.eq_false_iff.mpr (inn_m1 (sE S))]; simp
      rw [this]; rfl
    · obtain ⟨D, ⟨d1, d2, hrow⟩, hTI, -⟩ := hT e i2
      have hD4 := hTI.1
      have h31 := tW_le hD4
      have hin : inn (sE S) (nI e) = true := inn_n (by omega) (by omega)
      have eq1 : qHo S (nI m) w = (decide (tkey D (S.2.2 2 e) w ≠ -1) && (gA S m).contains (tkey D (S.2.2 2 e) w)) := by
        unfold qHo
        rw [hx, nI_clamp (by omega), g1', i1, hin, nI_clamp (by omega), d1]; simp
      by_cases hw : inn (tW D) w = true
      · obtain ⟨u, hu, rfl⟩ := inn_of (by omega) hw
        obtain ⟨k1, k2, k3, k4, k5, k6, k7⟩ := j_held (J_ri hJ1 0) hm
        refine ⟨_, r_holds l d g1 hR1 m e u D (S.1 1 m) (R1.2 22 (31 * e + u)) hm (by omega) i1 d2 hD4 hu rfl g4 g5 p2, fun v g2 hp => ⟨?_, LI.ref e1 rfl hA1 h51 hp.2 (J_ga hJ1 _ _)⟩⟩
        have ek : tkey D (S.2.2 2 e) (nI u) = R1.2 22 (31 * e + u) := by
          unfold tkey
          rw [show thr D (nI u) = true from hw, if_pos rfl, nI_clamp (by omega)]; exact (hrow u (by omega)).1
        rw [hp.1, eq1, ek, k3]
        have iff : ((decide (R1.2 22 (31 * e + u) ≠ -1) && (gA S m).contains (R1.2 22 (31 * e + u))) = true) ↔ (R1.2 22 (31 * e + u) ≠ -1 ∧ R1.2 22 (31 * e + u) ∈ cnd (ri R1 0 0) m (S.1 1 m)) := by
          rw [Bool.and_eq_true, decide_eq_true_eq, List.contains_iff_mem, k4]
        by_cases z : (R1.2 22 (31 * e + u) ≠ -1 ∧ R1.2 22 (31 * e + u) ∈ cnd (ri R1 0 0) m (S.1 1 m))
        · rw [if_pos z, if_pos (iff.mpr z)]
        · rw [if_neg z, if_neg (fun q => z (iff.mp q))]
      · refine ⟨_, r_holdsW l d g1 hR1 m e D w hm (by omega) i1 d2 hD4 hw, fun v g2 hp => ⟨?_, LI.ref e1 rfl hA1 h51 hp.2 (J_ri hJ1 0)⟩⟩
        rw [hp.1, eq1]
        have ek : tkey D (S.2.2 2 e) w = -1 := by
          unfold tkey
          rw [if_neg (show ¬ thr D w = true from hw)]
        rw [ek]; rfl
  · refine ⟨_, r_holdsX l d g1 hR1 x w hx, fun v g2 hp => ⟨?_, LI.ref e1 rfl hA1 h51 hp.2 (J_ri hJ1 0)⟩⟩
    rw [hp.1]
    have : qHo S x w = false := by
      unfold qHo
      rw [Bool.eq_false_iff.mpr hx]; rfl
    rw [this]; rfl
theorem a_node {S : SC} {R : SR} (h : J S R) {e u D : Nat} (he : e < R.1 12) (hD : R.2 13 e = nI D) (hD4 : D ≤ 4) (hu : u < tW D) (w : Int32) : qNo S (nI e) (nI u) w = if w = 3 then nI (rsv (fun v => R.2 22 (31 * e + v)) (fun v => R.2 23 (31 * e + v)) (hgt u) u).length else rNo R e u w 0 := by
  have hN := J_N h
  obtain ⟨⟨⟨n1, n2, n3⟩, -⟩, -, -, ⟨hT, -⟩, -⟩ := h
  obtain ⟨D1, ⟨d1, d2, hrow⟩, hTI, -⟩ := hT e he
  have : D1 = D := by
    rw [hD] at d2
    have := hTI.1
    exact ((nI_eq (by omega) (by omega)).mp d2).symm
  subst this
  have h31 := tW_le hD4
  have hin : inn (sE S) (nI e) = true := inn_n (by omega) (by omega)
  have hth : thr D1 (nI u) = true := by rw [thr_n hD4 (by omega)]; simpa using hu
  obtain ⟨r1, r2, r3⟩ := hrow u (by omega)
  unfold qNo
  rw [nI_clamp (by omega), nI_clamp (by omega), d1, if_pos ⟨hin, hth⟩]
  by_cases w3 : w = 3
  · subst w3
    rw [if_neg (by decide), if_neg (by decide), if_neg (by decide), if_pos rfl, if_pos rfl]
    have hTS : TI D1 (S.2.2 2 e) (S.2.2 4 e) := TI_c hTI (fun v hv => ⟨(hrow v hv).1, (hrow v hv).2.1⟩)
    have hh := (hgt_le u (by omega)).1
    rw [bcn_res hTS hh (by omega) hu rfl]
    rw [rsv_c (K1 := fun v => R.2 22 (31 * e + v)) (U1 := fun v => R.2 23 (31 * e + v)) (hgt u) u hh (by omega) rfl (fun r _ hr => ⟨(hrow r hr).1, (hrow r hr).2.1⟩)]
  · rw [if_neg w3, if_neg w3]
    unfold rNo
    rw [if_neg w3, r1, r2, r3]; rfl
theorem q_node (x u w : Int32) (h : LI ax ay ao g S) : QP l d ax ay ao mG_node mR_node [.int x, .int u, .int w] g S := by
  obtain ⟨Z, y, R, f0, rfl, rfl, hA, hR, hJ, h5⟩ := h
  have hN := J_N hJ
  refine ⟨qNo S x u w, 8, 2, by omega, by omega, ⟨_, c_node l d g hA x u w hN.2.2.1, fun v g1 hp => ⟨hp.1, ?_⟩⟩, fun g1 h1 => ?_⟩
  · rw [hp.2]; exact ⟨Z, y, R, f0, rfl, rfl, hA, hR, hJ, h5⟩
  obtain ⟨Z1, y1, R1, f1, e1, e2, hA1, hR1, hJ1, h51⟩ := h1
  rw [← e2]
  have hJ2 := hJ1
  obtain ⟨⟨⟨n1, n2, n3⟩, -⟩, -, -, ⟨hT, -⟩, -⟩ := hJ2
  by_cases hx : inn (R1.1 12) x = true
  · obtain ⟨e, he, rfl⟩ := inn_of (by omega) hx
    obtain ⟨D, ⟨d1, d2, hrow⟩, hTI, -⟩ := hT e he
    have hD4 := hTI.1
    have h31 := tW_le hD4
    by_cases hu : inn (tW D) u = true
    · obtain ⟨v, hv, rfl⟩ := inn_of (by omega) hu
      have ea := a_node hJ1 he d2 hD4 hv w
      by_cases w3 : w = 3
      · subst w3
        rw [if_pos rfl] at ea
        have hh := (hgt_le v (by omega)).1
        have hlen := rsv_le hTI (hgt v) v hh (by omega) rfl
        have hp5 : 2 ^ (hgt v + 1) ≤ 2 ^ 5 := Nat.pow_le_pow_right (by decide) (by omega)
        refine ⟨_, r_node3 l d g1 hR1 e v D n3 he d2 hD4 hv (by
          have : (rsv (fun v => R1.2 22 (31 * e + v)) (fun v => R1.2 23 (31 * e + v)) (hgt v) v).length ≤ 2 ^ (hgt v + 1) - 1 := hlen
          omega), fun r g2 hp => ?_⟩
        obtain ⟨hp1, F, O, hp2⟩ := hp
        exact ⟨by rw [hp1, ea], LI.ref e1 rfl hA1 h51 hp2 (J_rs hJ1 _ _ _)⟩
      · rw [if_neg w3] at ea
        refine ⟨_, r_node l d g1 hR1 e v D w n3 he d2 hD4 hv w3, fun r g2 hp => ⟨by rw [hp.1, ea], LI.ref e1 rfl hA1 h51 hp.2 (J_ri hJ1 0)⟩⟩
    · refine ⟨_, r_nodeW l d g1 hR1 e D u w n3 he d2 hD4 hu, fun r g2 hp => ⟨?_, LI.ref e1 rfl hA1 h51 hp.2 (J_ri hJ1 0)⟩⟩
      rw [hp.1]; unfold qNo
      rw [nI_clamp (by omega), d1, if_neg (fun q => hu q.2)]
  · refine ⟨_, r_nodeX l d g1 hR1 x u w hx, fun r g2 hp => ⟨?_, LI.ref e1 rfl hA1 h51 hp.2 (J_ri hJ1 0)⟩⟩
    rw [hp.1]; unfold qNo
    rw [n1, if_neg (fun q => hx q.1)]
theorem a_out {S : SC} {R : SR} (h : J S R) (hok : okC S) {s : Nat} (hs : s < R.1 1) : outQ S (nI s) = true ↔ KnR R s := by
  have hN := J_N h
  obtain ⟨⟨-, -, -, ⟨c1, -, -⟩, -⟩, -, -, -, -, -, -, -, -, ⟨-, -, hout⟩, -⟩ := h
  unfold outQ isO
  rw [c1, inn_n hs (by omega), nI_clamp (by omega), Bool.true_and, decide_eq_true_eq, ← hout s hs]
  rcases hok.2.2.1 s with q | q
  · rw [q]; decide
  · rw [q]; decide
theorem q_isKnown (x : Int32) (h : LI ax ay ao g S) : QP l d ax ay ao mG_isKnown mR_isKnown [.int x] g S := by
  obtain ⟨Z, y, R, f0, rfl, rfl, hA, hR, hJ, h5⟩ := h
  have hN := J_N hJ
  refine ⟨if qKn S x = true then 1 else 0, 1, 2, by omega, by omega, ⟨_, c_isKnown l d g hA x hN.2.2.1, fun v g1 hp => ⟨hp.1, ?_⟩⟩, fun g1 h1 => ?_⟩
  · rw [hp.2]; exact ⟨Z, y, R, f0, rfl, rfl, hA, hR, hJ, h5⟩
  obtain ⟨Z1, y1, R1, f1, e1, e2, hA1, hR1, hJ1, h51⟩ := h1
  rw [← e2]
  have hok : okC S := hA1.2.2.2.2.2.2.2.2
  have hJ2 := hJ1
  obtain ⟨⟨⟨n1, n2, n3⟩, -⟩, -, hX, -⟩ := hJ2
  by_cases hx : inn (R1.1 12) x = true
  · obtain ⟨e, he, rfl⟩ := inn_of (by omega) hx
    obtain ⟨⟨-, x5, -⟩, s, s1, s2⟩ := hX e he
    refine ⟨_, r_isKnown l d g1 hR1 e s (J_wfK hJ1) n3 he s2 s1, fun v g2 hp => ?_⟩
    obtain ⟨f, b, hb1, hb2, hb3, hb4⟩ := hp
    refine ⟨?_, LI.ref e1 rfl hA1 h51 hb4 (J_6 hJ1 0 f)⟩
    have e9 : qKn S (nI e) = outQ S (nI s) := by
      unfold qKn
      rw [n1, hx, nI_clamp (by omega), x5, s2, Bool.true_and]
    rw [hb1, e9]
    by_cases z : KnR R1 s
    · rw [if_pos ((a_out hJ1 hok s1).mpr z), hb3.mpr z]
    · rw [if_neg (fun q => z ((a_out hJ1 hok s1).mp q))]
      rcases hb2 with q | q
      · rw [q]
      · exact absurd (hb3.mp q) z
  · refine ⟨_, r_isKnownX l d g1 hR1 x hx, fun v g2 hp => ⟨?_, LI.ref e1 rfl hA1 h51 hp.2 (J_ri hJ1 0)⟩⟩
    have e9 : qKn S x = false := by
      unfold qKn
      rw [n1, Bool.eq_false_iff.mpr hx]; rfl
    rw [hp.1, e9]; rfl
theorem q_isOpen (x w : Int32) (h : LI ax ay ao g S) : QP l d ax ay ao mG_isOpen mR_isOpen [.int x, .int w] g S := by
  obtain ⟨Z, y, R, f0, rfl, rfl, hA, hR, hJ, h5⟩ := h
  have hN := J_N hJ
  refine ⟨if qOp S x w = true then 1 else 0, 2, 2, by omega, by omega, ⟨_, c_isOpen l d g hA x w hN.2.2.1, fun v g1 hp => ⟨hp.1, ?_⟩⟩, fun g1 h1 => ?_⟩
  · rw [hp.2]; exact ⟨Z, y, R, f0, rfl, rfl, hA, hR, hJ, h5⟩
  obtain ⟨Z1, y1, R1, f1, e1, e2, hA1, hR1, hJ1, h51⟩ := h1
  rw [← e2]
  have hok : okC S := hA1.2.2.2.2.2.2.2.2
  have hJ2 := hJ1
  obtain ⟨⟨⟨n1, n2, n3⟩, -⟩, -, -, ⟨hT, -⟩, -⟩ := hJ2
  have o1 : outQ S (-1) = false := by
    unfold outQ isO
    rw [Bool.eq_false_iff.mpr (inn_m1 (sN S))]; rfl
  by_cases hx : inn (R1.1 12) x = true
  · obtain ⟨e, he, rfl⟩ := inn_of (by omega) hx
    obtain ⟨D, ⟨d1, d2, hrow⟩, hTI, -, hkk, -⟩ := hT e he
    have hD4 := hTI.1
    have h31 := tW_le hD4
    have e8 : qOp S (nI e) w = outQ S (tkey D (S.2.2 2 e) w) := by
      unfold qOp
      rw [n1, hx, nI_clamp (by omega), d1, Bool.true_and]
    by_cases hw : inn (tW D) w = true
    · obtain ⟨u, hu, rfl⟩ := inn_of (by omega) hw
      have ek : tkey D (S.2.2 2 e) (nI u) = rK R1 e u := by
        unfold tkey
        rw [show thr D (nI u) = true from hw, if_pos rfl, nI_clamp (by omega)]; exact (hrow u (by omega)).1
      rw [ek] at e8
      rcases hkk u (by omega) with z | ⟨s, s1, s2⟩
      · refine ⟨_, r_isOpenB l d g1 hR1 e u D n3 he d2 hD4 hu z, fun v g2 hp => ⟨?_, LI.ref e1 rfl hA1 h51 hp.2 (J_ri hJ1 0)⟩⟩
        rw [hp.1, e8, z, o1]; rfl
      · refine ⟨_, r_isOpen l d g1 hR1 e u s D (J_wfK hJ1) n3 he d2 hD4 hu s2 s1, fun v g2 hp => ?_⟩
        obtain ⟨f, b, hb1, hb2, hb3, hb4⟩ := hp
        refine ⟨?_, LI.ref e1 rfl hA1 h51 hb4 (J_6 hJ1 0 f)⟩
        rw [hb1, e8, s2]
        by_cases z : KnR R1 s
        · rw [if_pos ((a_out hJ1 hok s1).mpr z), hb3.mpr z]
        · rw [if_neg (fun q => z ((a_out hJ1 hok s1).mp q))]
          rcases hb2 with q | q
          · rw [q]
          · exact absurd (hb3.mp q) z
    · refine ⟨_, r_isOpenW l d g1 hR1 e D w n3 he d2 hD4 hw, fun v g2 hp => ⟨?_, LI.ref e1 rfl hA1 h51 hp.2 (J_ri hJ1 0)⟩⟩
      have ek : tkey D (S.2.2 2 e) w = -1 := by
        unfold tkey
        rw [if_neg (show ¬ thr D w = true from hw)]
      rw [hp.1, e8, ek, o1]; rfl
  · refine ⟨_, r_isOpenX l d g1 hR1 x w hx, fun v g2 hp => ⟨?_, LI.ref e1 rfl hA1 h51 hp.2 (J_ri hJ1 0)⟩⟩
    have e9 : qOp S x w = false := by
      unfold qOp
      rw [n1, Bool.eq_false_iff.mpr hx]; rfl
    rw [hp.1, e9]; rfl
theorem q_known (h : LI ax ay ao g S) : QP l d ax ay ao mG_known mR_known [] g S := by
  obtain ⟨Z, y, R, f0, rfl, rfl, hA, hR, hJ, h5⟩ := h
  have hN := J_N hJ
  refine ⟨nI (qCo S (sE S)), 1, 2, by omega, by omega, ⟨_, c_known l d g hA hN.2.2.1, fun v g1 hp => ⟨hp.1, ?_⟩⟩, fun g1 h1 => ?_⟩
  · rw [hp.2]; exact ⟨Z, y, R, f0, rfl, rfl, hA, hR, hJ, h5⟩
  obtain ⟨Z1, y1, R1, f1, e1, e2, hA1, hR1, hJ1, h51⟩ := h1
  rw [← e2]
  have hok : okC S := hA1.2.2.2.2.2.2.2.2
  have hJ2 := hJ1
  obtain ⟨⟨⟨n1, n2, n3⟩, -, -, ⟨c1, c2, c3⟩, -⟩, -, hX, -⟩ := hJ2
  refine ⟨_, r_known l d g1 hR1 (J_wfK hJ1) n3 (fun e he => (hX e he).2), fun v g2 hp => ?_⟩
  obtain ⟨f, hb1, hb2, hb3⟩ := hp
  refine ⟨?_, LI.ref e1 rfl hA1 h51 hb3 (J_6 hJ1 0 f)⟩
  rw [hb1, n1]
  have key : ∀ i, i ≤ R1.1 12 → rCo R1 f i = qCo S i := by
    intro i
    induction i with
    | zero => exact fun _ => rfl
    | succ i ih =>
      intro hi
      obtain ⟨⟨-, x5, -⟩, s, s1, s2⟩ := hX i (by omega)
      simp only [rCo, qCo]
      rw [x5, s2, nI_clamp (by have := (J_N hJ1).1; omega), ih (by omega)]
      by_cases z : KnR R1 s
      · rw [if_pos ((hb2 s s1).mpr z), if_pos ((a_out hJ1 hok s1).mpr z)]
      · rw [if_neg (fun q => z ((hb2 s s1).mp q)), if_neg (fun q => z ((a_out hJ1 hok s1).mp q))]
  rw [key _ (Nat.le_refl _)]
end QQ
