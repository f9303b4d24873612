/-! the reference's constructor; a refused commit -/
def rP (y : Nat → Nat) (k : Nat) : List Value := (List.range 52).map (fun f => if aI f = true then (if f < k then .ref (y f) else .null) else .int 0)
def rI (g0 g : gh_H) (a0 : Nat) (y : Nat → Nat) (k : Nat) : Prop := g (30, 0) = some (a0, .inr (7, rP y k)) ∧ (∀ f, f < k → aI f = true → g (31, f) = some (y f, .inl (aT f, aN f, .inl (fun _ => 0)))) ∧ fr kR g0 g
theorem rP_len (y : Nat → Nat) (k : Nat) : (rP y k).length = 52 := by simp [rP]
theorem rI.nx {g0 g : gh_H} {a0 : Nat} {y : Nat → Nat} {k : Nat} (h : rI g0 g a0 y k) (hk : aI k = false) : rI g0 g a0 y (k + 1) := by
  have e : rP y (k + 1) = rP y k := by
    unfold rP
    refine List.map_congr_left (fun f _ => ?_)
    by_cases e : f = k
    · subst e; simp [hk]
    · by_cases h9 : f < k
      · simp [h9, show f < k + 1 by omega]
      · simp [h9, show ¬ f < k + 1 by omega]
  refine ⟨by rw [e]; exact h.1, fun f hf ha => h.2.1 f ?_ ha, h.2.2⟩
  by_cases e : f = k
  · subst e; rw [hk] at ha; cases ha
  · omega
theorem rP_set {y : Nat → Nat} {f a : Nat} (hf : f < 52) (ha : aI f = true) : (rP y f).set f (.ref a) = rP (fun j => if j = f then a else y j) (f + 1) := by
  apply List.ext_getElem?
  intro i
  rw [List.getElem?_set]
  by_cases e : f = i
  · subst e
    rw [if_pos rfl, rP_len, if_pos hf]
    unfold rP
    rw [List.getElem?_map, List.getElem?_range hf]
    simp [ha]
  · rw [if_neg e]
    unfold rP
    rw [List.getElem?_map, List.getElem?_map]
    cases h9 : (List.range 52)[i]? with
    | none => rfl
    | some j =>
      have hj : j = i := by
        rw [List.getElem?_eq_some_iff] at h9
        obtain ⟨h1, h2⟩ := h9
        rw [List.getElem_range] at h2; exact h2.symm
      subst hj
      simp only [Option.map_some]
      have e2 : j ≠ f := fun h => e h.symm
      rw [if_neg e2]
      by_cases h7 : j < f
      · simp [h7, show j < f + 1 by omega]
      · simp [h7, show ¬ j < f + 1 by omega]
section RN
variable {l : Launch} {d : gh_D} {z : gh_Z} {mm : gh_M} {rm : Room} {pc : Nat} {ls : List (Option Value)} {rest : List Value} {g0 g : gh_H} {cb sb : Nat} {a0 : Nat} {y : Nat → Nat}
theorem rI.st {f : Nat} (h : rI g0 g a0 y f) (hf : f < 52) (ha : aI f = true) (a : Nat) : rI g0 (gh_u (gh_u g (31, f) (a, .inl (aT f, aN f, .inl (fun _ => 0)))) (30, 0) (a0, .inr (7, rP (fun j => if j = f then a else y j) (f + 1)))) a0 (fun j => if j = f then a else y j) (f + 1) := by
  refine ⟨gh_us, fun q hq hqa => (gh_un (gh_kd (by decide))).trans ?_, (h.2.2.u rfl).u rfl⟩
  by_cases e : q = f
  · subst e; simp only [if_true]; exact gh_us
  · simp only [if_neg e]
    rw [gh_un (gh_kx e)]
    exact h.2.1 q (by omega) hqa
theorem rw_newI (C : gh_X d z mm rm) {f : Nat} (n : Nat) (h : rI g0 g a0 y f) (hf : f < 52 ∧ aI f = true ∧ aT f = 0 ∧ aN f = n) {x : Int32} (hx : x = nI n ∧ n ≤ 1000000) {index : Nat} (hF : gh_FP mm.1.cls index 7 f (.array .int) true) (hfi : mm.1.name = "<init>") (cb1 sb1 : Nat) (h1 : cb1 + 1 ≤ cb) (h2 : sb1 + n ≤ sb) (hd : decode mm.2.1 pc = .ok (.newarray .int, 2)) (hd2 : decode mm.2.1 (pc + 2) = .ok (.putfield index, 3)) (kk : ∀ (y1 : Nat → Nat) (g1 : gh_H), rI g0 g1 a0 y1 (f + 1) → gh_W l d z (pc + 2 + 3) ls rest g1 cb1 sb1) : gh_W l d z pc ls (.int x :: .ref a0 :: rest) g cb sb := by
  refine gh_newaI C (31, f) n hx cb1 sb1 h1 h2 hd (fun a na => ?_)
  have h9 := h.st hf.1 hf.2.1 a
  rw [hf.2.2.1, hf.2.2.2] at h9
  exact gh_putL C (rP (fun j => if j = f then a else y j) (f + 1)) hF (fun _ => hfi) ((gh_un (gh_kd (by decide))).trans h.1) (rP_set hf.1 hf.2.1) (by rw [rP_len]; exact hf.1) rfl rfl hd2 (kk _ _ h9)
theorem rw_newZ (C : gh_X d z mm rm) {f : Nat} (n : Nat) (h : rI g0 g a0 y f) (hf : f < 52 ∧ aI f = true ∧ aT f = 2 ∧ aN f = n) {x : Int32} (hx : x = nI n ∧ n ≤ 1000000) {index : Nat} (hF : gh_FP mm.1.cls index 7 f (.array .boolean) true) (hfi : mm.1.name = "<init>") (cb1 sb1 : Nat) (h1 : cb1 + 1 ≤ cb) (h2 : sb1 + n ≤ sb) (hd : decode mm.2.1 pc = .ok (.newarray .boolean, 2)) (hd2 : decode mm.2.1 (pc + 2) = .ok (.putfield index, 3)) (kk : ∀ (y1 : Nat → Nat) (g1 : gh_H), rI g0 g1 a0 y1 (f + 1) → gh_W l d z (pc + 2 + 3) ls rest g1 cb1 sb1) : gh_W l d z pc ls (.int x :: .ref a0 :: rest) g cb sb := by
  refine gh_newaZ C (31, f) n hx cb1 sb1 h1 h2 hd (fun a na => ?_)
  have h9 := h.st hf.1 hf.2.1 a
  rw [hf.2.2.1, hf.2.2.2] at h9
  exact gh_putL C (rP (fun j => if j = f then a else y j) (f + 1)) hF (fun _ => hfi) ((gh_un (gh_kd (by decide))).trans h.1) (rP_set hf.1 hf.2.1) (by rw [rP_len]; exact hf.1) rfl rfl hd2 (kk _ _ h9)
end RN
def r00 : SR := (fun _ => 0, fun _ _ => 0)
theorem rI.fin {g0 g : gh_H} {a0 : Nat} {y : Nat → Nat} (h : rI g0 g a0 y 52) : rQ g0 g (fun j => if j = 0 then a0 else y j) r00 := by
  refine ⟨⟨h.1, fun f hf => ?_⟩, h.2.2⟩
  have h0 : f ≠ 0 := fun e => by subst e; revert hf; decide
  have h52 : f < 52 := by
    unfold aI at hf
    simp only [Bool.and_eq_true, decide_eq_true_eq] at hf
    exact hf.2
  simp only [if_neg h0]
  exact h.2.1 f h52 hf
def lvI (T : SR) : Nat → SR
  | 0 => T
  | i + 1 => lvR (lvI T i) i
theorem seg0 (i : Nat) (G A : Nat → Int32) : upd (seg 0 i G A) i (G i) = seg 0 (i + 1) G A := by
  have := seg_s 0 i G A
  rwa [Nat.zero_add] at this
def q04 (T : SR) : SR := ra (ra T 15 (upd (T.2 15) 0 (-1))) 26 (upd (T.2 26) 0 0)
def q05 (T : SR) : SR := mkR (q04 T) 1 0 0
def q06 (T : SR) : SR := mkR (ra (q05 T) 22 (upd ((q05 T).2 22) 0 (nI (T.1 1)))) 1 0 0
def q07 (T : SR) : SR := ri (ra (q06 T) 14 (upd ((q06 T).2 14) 0 (nI (T.1 1 + 1)))) 12 1
def q08 (T : SR) : SR := ra (ra (q07 T) 27 (upd ((q07 T).2 27) 0 0)) 28 (upd ((q07 T).2 28) 0 0)
def q09 (T : SR) : SR := ra (ra (q08 T) 29 (upd ((q08 T).2 29) 0 ((q08 T).2 22 0))) 32 (upd ((q08 T).2 32) 0 1)
def q03 (T : SR) : SR := ra T 26 (seg 0 960 (fun _ => -1) (T.2 26))
def q02 (T : SR) : SR := ra T 22 (seg 0 1860 (fun _ => -1) (T.2 22))
def r0 : SR := q09 (q03 (q02 (lvI (mkR r00 0 0 0) 16)))
set_option maxRecDepth 100000 in
set_option maxHeartbeats 4000000 in
theorem r_Model (l : Launch) (d : gh_D) (g : gh_H) {a : Nat} (hg : g (30, 0) = some (a, .inr (7, rP (fun _ => 0) 0))) : gh_C l d mR_init (rr 1 44 38008) [.ref a] g (fun v g1 => v = none ∧ ∃ y : Nat → Nat, y 0 = a ∧ rQ g g1 y r0) := by
  refine gh_of [some (.ref a), none] (by decide) rfl (Nat.le_of_ble_eq_true rfl) (by simp [Value.category]) (fun z C hQ => ?_)
  show gh_W l d z 0 [some (.ref a), none] [] g 44 38008
  have tail : ∀ (y : Nat → Nat) (g1 : gh_H), y 0 = a → rQ g g1 y r00 → gh_W l d z 373 [some (.ref a), none] [] g1 0 0 := by
    intro y g1 hy h1
    rw [← hy]
    have r1 : ∀ T i, (lvI T i).1 = T.1 := fun T i => by
      induction i with
      | zero => rfl
      | succ i ih => exact ih
    have fin : ∀ (T : SR) (x1 : Option Value) (g2 : gh_H), T.1 1 = 1 → q09 T = r0 → rQ g g2 y T → gh_W l d z 444 [some (.ref (y 0)), x1] [] g2 0 0 := by
      intro T x1 g2 hT hz h2
      refine gh_aload_n C dR_init_444 rfl ?_
      refine rw_get C h2 fR_44 rfl dR_init_445 ?_
      refine gh_iconst C 0 dR_init_448 (by decide) ?_
      refine gh_iconst C (-1) dR_init_449 (by decide) ?_
      refine rw_ist C h2 15 60 ⟨rfl, rfl, rfl, by decide⟩ (0) rfl (by omega) dR_init_450 (fun g101 h101 => ?_)
      have h101 : rQ g g101 y (ra T 15 (upd (T.2 15) 0 (-1))) := h101
      refine gh_aload_n C dR_init_451 rfl ?_
      refine rw_get C h101 fR_77 rfl dR_init_452 ?_
      refine gh_iconst C 0 dR_init_455 (by decide) ?_
      refine gh_iconst C 0 dR_init_456 (by decide) ?_
      refine rw_ist C h101 26 960 ⟨rfl, rfl, rfl, by decide⟩ (0) rfl (by omega) dR_init_457 (fun g102 h102 => ?_)
      have h102 : rQ g g102 y (ra (ra T 15 (upd (T.2 15) 0 (-1))) 26 (upd (T.2 26) 0 0)) := h102
      have k1 := h102
      change rQ g _ y (q04 T) at k1
      refine gh_aload_n C dR_init_458 rfl ?_
      refine rw_get C k1 fR_65 rfl dR_init_459 ?_
      refine gh_iconst C 0 dR_init_462 (by decide) ?_
      refine gh_aload_n C dR_init_463 rfl ?_
      refine gh_iconst C 1 dR_init_464 (by decide) ?_
      refine gh_iconst C 0 dR_init_465 (by decide) ?_
      refine gh_iconst C 0 dR_init_466 (by decide) ?_
      refine gh_callV C [.int 1, .int 0, .int 0] (r_make l d _ k1.1 1 0 0 (by show T.1 1 < 2600; omega)) lR_143 wR_make vR_make k1.1.1 rfl rfl rfl (Nat.le_of_ble_eq_true rfl) ⟨Nat.le_of_ble_eq_true rfl, Nat.le_of_ble_eq_true rfl⟩ (Nat.le_of_ble_eq_true rfl) (Nat.le_of_ble_eq_true rfl) dR_init_467 (fun v103 g103 k103 => ?_)
      obtain ⟨rfl, h103⟩ := k103
      replace h103 := k1.tr h103
      refine rw_ist C h103 22 1860 ⟨rfl, rfl, rfl, by decide⟩ (0) rfl (by decide) dR_init_470 (fun g104 h104 => ?_)
      have h104 : rQ g g104 y (ra (q05 T) 22 (upd ((q05 T).2 22) 0 (nI (T.1 1)))) := h104
      refine gh_aload_n C dR_init_471 rfl ?_
      refine rw_get C h104 fR_41 rfl dR_init_472 ?_
      refine gh_iconst C 0 dR_init_475 (by decide) ?_
      refine gh_aload_n C dR_init_476 rfl ?_
      refine gh_iconst C 1 dR_init_477 (by decide) ?_
      refine gh_iconst C 0 dR_init_478 (by decide) ?_
      refine gh_iconst C 0 dR_init_479 (by decide) ?_
      refine gh_callV C [.int 1, .int 0, .int 0] (r_make l d _ h104.1 1 0 0 (by show T.1 1 + 1 < 2600; omega)) lR_143 wR_make vR_make h104.1.1 rfl rfl rfl (Nat.le_of_ble_eq_true rfl) ⟨Nat.le_of_ble_eq_true rfl, Nat.le_of_ble_eq_true rfl⟩ (Nat.le_of_ble_eq_true rfl) (Nat.le_of_ble_eq_true rfl) dR_init_480 (fun v105 g105 k105 => ?_)
      obtain ⟨rfl, h105⟩ := k105
      replace h105 := h104.tr h105
      refine rw_ist C h105 14 60 ⟨rfl, rfl, rfl, by decide⟩ (0) rfl (by decide) dR_init_483 (fun g106 h106 => ?_)
      have h106 : rQ g g106 y (ra (q06 T) 14 (upd ((q06 T).2 14) 0 (nI (T.1 1 + 1)))) := h106
      refine gh_aload_n C dR_init_484 rfl ?_
      refine gh_iconst C 1 dR_init_485 (by decide) ?_
      refine rw_put C h106 (1) rfl pR_151 (by decide) rfl (by decide) (fun _ => rfl) (fun _ => rfl) dR_init_486 (fun g107 h107 => ?_)
      have k2 := h107
      change rQ g _ y (q07 T) at k2
      refine gh_aload_n C dR_init_489 rfl ?_
      refine rw_get C k2 fR_80 rfl dR_init_490 ?_
      refine gh_iconst C 0 dR_init_493 (by decide) ?_
      refine gh_iconst C 0 dR_init_494 (by decide) ?_
      refine rw_ist C k2 27 16 ⟨rfl, rfl, rfl, by decide⟩ (0) rfl (by decide) dR_init_495 (fun g108 h108 => ?_)
      have h108 : rQ g g108 y (ra (q07 T) 27 (upd ((q07 T).2 27) 0 0)) := h108
      refine gh_aload_n C dR_init_496 rfl ?_
      refine rw_get C h108 fR_83 rfl dR_init_497 ?_
      refine gh_iconst C 0 dR_init_500 (by decide) ?_
      refine gh_iconst C 0 dR_init_501 (by decide) ?_
      refine rw_ist C h108 28 16 ⟨rfl, rfl, rfl, by decide⟩ (0) rfl (by decide) dR_init_502 (fun g109 h109 => ?_)
      have h109 : rQ g g109 y (ra (ra (q07 T) 27 (upd ((q07 T).2 27) 0 0)) 28 (upd ((q07 T).2 28) 0 0)) := h109
      have k3 := h109
      change rQ g _ y (q08 T) at k3
      refine gh_aload_n C dR_init_503 rfl ?_
      refine rw_get C k3 fR_86 rfl dR_init_504 ?_
      refine gh_iconst C 0 dR_init_507 (by decide) ?_
      refine gh_aload_n C dR_init_508 rfl ?_
      refine rw_get C k3 fR_65 rfl dR_init_509 ?_
      refine gh_iconst C 0 dR_init_512 (by decide) ?_
      refine rw_ild C k3 22 1860 ⟨rfl, rfl, rfl, by decide⟩ (0) rfl (by decide) dR_init_513 ?_
      refine rw_ist C k3 29 16 ⟨rfl, rfl, rfl, by decide⟩ (0) rfl (by decide) dR_init_514 (fun g110 h110 => ?_)
      have h110 : rQ g g110 y (ra (q08 T) 29 (upd ((q08 T).2 29) 0 ((q08 T).2 22 0))) := h110
      refine gh_aload_n C dR_init_515 rfl ?_
      refine rw_get C h110 fR_95 rfl dR_init_516 ?_
      refine gh_iconst C 0 dR_init_519 (by decide) ?_
      refine gh_iconst C 1 dR_init_520 (by decide) ?_
      refine rw_zst C h110 32 16 ⟨rfl, rfl, rfl, by decide⟩ (0) rfl (by decide) rfl dR_init_521 (fun g111 h111 => ?_)
      have h111 : rQ g g111 y (ra (ra (q08 T) 29 (upd ((q08 T).2 29) 0 ((q08 T).2 22 0))) 32 (upd ((q08 T).2 32) 0 1)) := h111
      refine gh_vret C hQ rfl dR_init_522 ?_
      exact ⟨rfl, y, hy, by rw [← hz]; exact h111⟩
    have lo3 : ∀ (T : SR) (c i : Nat) (g2 : gh_H), T.1 1 = 1 → q09 (q03 T) = r0 → i + c = 960 → rQ g g2 y (ra T 26 (seg 0 i (fun _ => -1) (T.2 26))) → gh_W l d z 424 [some (.ref (y 0)), some (.int (nI i))] [] g2 0 0 := by
      intro T c
      induction c with
      | zero =>
        intro i g2 hT hz hi h2
        have hi : i = 960 := by omega
        subst hi
        refine gh_iload_n C dR_init_424 rfl ?_
        refine gh_sipush C 960 dR_init_425 (by decide) ?_
        refine gh_icmp_ge C 444 dR_init_428 (by decide) (fun c428 => ?_) (fun c428 => ?_)
        ·
          exact fin (q03 T) _ _ hT hz h2
        · exact absurd (nI_le (Nat.le_refl 960) (by decide)) c428
      | succ c ih =>
        intro i g2 hT hz hi h2
        refine gh_iload_n C dR_init_424 rfl ?_
        refine gh_sipush C 960 dR_init_425 (by decide) ?_
        refine gh_icmp_ge C 444 dR_init_428 (by decide) (fun c428 => ?_) (fun c428 => ?_)
        · exact absurd c428 (nI_ge (show i < 960 by omega) (by decide))
        ·
          refine gh_aload_n C dR_init_431 rfl ?_
          refine rw_get C h2 fR_77 rfl dR_init_432 ?_
          refine gh_iload_n C dR_init_435 rfl ?_
          refine gh_iconst C (-1) dR_init_436 (by decide) ?_
          refine rw_ist C h2 26 960 ⟨rfl, rfl, rfl, by decide⟩ (i) rfl (by omega) dR_init_437 (fun g101 h101 => ?_)
          have h101 : rQ g g101 y (ra (ra T 26 (seg 0 i (fun _ => -1) (T.2 26))) 26 (upd ((ra T 26 (seg 0 i (fun _ => -1) (T.2 26))).2 26) i (-1))) := h101
          refine gh_iinc C (nI (i + 1)) [some (.ref (y 0)), some (.int (nI (i + 1)))] dR_init_438 rfl (gh_inc i) rfl ?_
          refine gh_goto C 424 dR_init_441 (by decide) ?_
          refine ih (i + 1) _ hT hz (by omega) ?_
          have h9 := h101
          rw [ra_ra, ra_at, seg0 i (fun _ => -1)] at h9
          exact h9
    have lo2 : ∀ (T : SR) (c i : Nat) (g2 : gh_H), T.1 1 = 1 → q09 (q03 (q02 T)) = r0 → i + c = 1860 → rQ g g2 y (ra T 22 (seg 0 i (fun _ => -1) (T.2 22))) → gh_W l d z 402 [some (.ref (y 0)), some (.int (nI i))] [] g2 0 0 := by
      intro T c
      induction c with
      | zero =>
        intro i g2 hT hz hi h2
        have hi : i = 1860 := by omega
        subst hi
        refine gh_iload_n C dR_init_402 rfl ?_
        refine gh_sipush C 1860 dR_init_403 (by decide) ?_
        refine gh_icmp_ge C 422 dR_init_406 (by decide) (fun c406 => ?_) (fun c406 => ?_)
        ·
          refine gh_iconst C 0 dR_init_422 (by decide) ?_
          refine gh_istore_n C [some (.ref (y 0)), some (.int 0)] dR_init_423 rfl (Nat.le_of_ble_eq_true rfl) ?_
          refine lo3 (q02 T) 960 0 _ hT hz (by omega) ?_
          rw [seg_0, ra_self]
          exact h2
        · exact absurd (nI_le (Nat.le_refl 1860) (by decide)) c406
      | succ c ih =>
        intro i g2 hT hz hi h2
        refine gh_iload_n C dR_init_402 rfl ?_
        refine gh_sipush C 1860 dR_init_403 (by decide) ?_
        refine gh_icmp_ge C 422 dR_init_406 (by decide) (fun c406 => ?_) (fun c406 => ?_)
        · exact absurd c406 (nI_ge (show i < 1860 by omega) (by decide))
        ·
          refine gh_aload_n C dR_init_409 rfl ?_
          refine rw_get C h2 fR_65 rfl dR_init_410 ?_
          refine gh_iload_n C dR_init_413 rfl ?_
          refine gh_iconst C (-1) dR_init_414 (by decide) ?_
          refine rw_ist C h2 22 1860 ⟨rfl, rfl, rfl, by decide⟩ (i) rfl (by omega) dR_init_415 (fun g101 h101 => ?_)
          have h101 : rQ g g101 y (ra (ra T 22 (seg 0 i (fun _ => -1) (T.2 22))) 22 (upd ((ra T 22 (seg 0 i (fun _ => -1) (T.2 22))).2 22) i (-1))) := h101
          refine gh_iinc C (nI (i + 1)) [some (.ref (y 0)), some (.int (nI (i + 1)))] dR_init_416 rfl (gh_inc i) rfl ?_
          refine gh_goto C 402 dR_init_419 (by decide) ?_
          refine ih (i + 1) _ hT hz (by omega) ?_
          have h9 := h101
          rw [ra_ra, ra_at, seg0 i (fun _ => -1)] at h9
          exact h9
    have lo1 : ∀ (T : SR) (c i : Nat) (g2 : gh_H), T.1 1 = 1 → q09 (q03 (q02 (lvI T 16))) = r0 → i + c = 16 → rQ g g2 y (lvI T i) → gh_W l d z 383 [some (.ref (y 0)), some (.int (nI i))] [] g2 0 0 := by
      intro T c
      induction c with
      | zero =>
        intro i g2 hT hz hi h2
        have hi : i = 16 := by omega
        subst hi
        refine gh_iload_n C dR_init_383 rfl ?_
        refine gh_bipush C 16 dR_init_384 (by decide) ?_
        refine gh_icmp_ge C 400 dR_init_386 (by decide) (fun c386 => ?_) (fun c386 => ?_)
        ·
          refine gh_iconst C 0 dR_init_400 (by decide) ?_
          refine gh_istore_n C [some (.ref (y 0)), some (.int 0)] dR_init_401 rfl (Nat.le_of_ble_eq_true rfl) ?_
          refine lo2 (lvI T 16) 1860 0 _ (by rw [r1]; exact hT) hz (by omega) ?_
          rw [seg_0, ra_self]
          exact h2
        · exact absurd (nI_le (Nat.le_refl 16) (by decide)) c386
      | succ c ih =>
        intro i g2 hT hz hi h2
        refine gh_iload_n C dR_init_383 rfl ?_
        refine gh_bipush C 16 dR_init_384 (by decide) ?_
        refine gh_icmp_ge C 400 dR_init_386 (by decide) (fun c386 => ?_) (fun c386 => ?_)
        · exact absurd c386 (nI_ge (show i < 16 by omega) (by decide))
        ·
          refine gh_aload_n C dR_init_389 rfl ?_
          refine gh_iload_n C dR_init_390 rfl ?_
          refine gh_callV C [.int (nI i)] (r_leave l d _ h2.1 i (by omega)) lR_147 wR_leave vR_leave h2.1.1 rfl rfl rfl (Nat.le_of_ble_eq_true rfl) ⟨Nat.le_of_ble_eq_true rfl, Nat.le_of_ble_eq_true rfl⟩ (Nat.le_of_ble_eq_true rfl) (Nat.le_of_ble_eq_true rfl) dR_init_391 (fun v101 g101 k101 => ?_)
          obtain ⟨rfl, h101⟩ := k101
          replace h101 := h2.tr h101
          refine gh_iinc C (nI (i + 1)) [some (.ref (y 0)), some (.int (nI (i + 1)))] dR_init_394 rfl (gh_inc i) rfl ?_
          refine gh_goto C 383 dR_init_397 (by decide) ?_
          exact ih (i + 1) _ hT hz (by omega) h101
    refine gh_aload_n C dR_init_373 rfl ?_
    refine gh_iconst C 0 dR_init_374 (by decide) ?_
    refine gh_iconst C 0 dR_init_375 (by decide) ?_
    refine gh_iconst C 0 dR_init_376 (by decide) ?_
    refine gh_callV C [.int 0, .int 0, .int 0] (r_make l d _ h1.1 0 0 0 (by decide)) lR_143 wR_make vR_make h1.1.1 rfl rfl rfl (Nat.le_of_ble_eq_true rfl) ⟨Nat.le_of_ble_eq_true rfl, Nat.le_of_ble_eq_true rfl⟩ (Nat.le_of_ble_eq_true rfl) (Nat.le_of_ble_eq_true rfl) dR_init_377 (fun v101 g101 k101 => ?_)
    obtain ⟨rfl, h101⟩ := k101
    replace h101 := h1.tr h101
    refine gh_pop C dR_init_380 rfl ?_
    refine gh_iconst C 0 dR_init_381 (by decide) ?_
    refine gh_istore_n C [some (.ref (y 0)), some (.int 0)] dR_init_382 rfl (Nat.le_of_ble_eq_true rfl) ?_
    exact lo1 (mkR r00 0 0 0) 16 0 _ rfl rfl (by omega) h101
  have hI : rI g g a (fun _ => 0) 0 := ⟨hg, fun f h => absurd h (Nat.not_lt_zero f), fr.rf⟩
  refine gh_aload_n C dR_init_0 rfl ?_
  refine gh_obj C oR_1 oo_i oo_c (Nat.le_of_ble_eq_true rfl) ⟨Nat.le_of_ble_eq_true rfl, Nat.le_of_ble_eq_true rfl⟩ dR_init_1 ?_
  refine gh_aload_n C dR_init_4 rfl ?_
  refine gh_sipush C 2600 dR_init_5 (by decide) ?_
  have i1 := hI.nx (by decide)
  have i2 := i1.nx (by decide)
  refine rw_newI C 2600 i2 ⟨by decide, rfl, rfl, rfl⟩ ⟨rfl, by decide⟩ pR_7 rfl 43 35408 (Nat.le_of_ble_eq_true rfl) (Nat.le_of_ble_eq_true rfl) dR_init_8 dR_init_10 (fun y3 g3 i3 => ?_)
  refine gh_aload_n C dR_init_13 rfl ?_
  refine gh_sipush C 2600 dR_init_14 (by decide) ?_
  refine rw_newI C 2600 i3 ⟨by decide, rfl, rfl, rfl⟩ ⟨rfl, by decide⟩ pR_13 rfl 42 32808 (Nat.le_of_ble_eq_true rfl) (Nat.le_of_ble_eq_true rfl) dR_init_17 dR_init_19 (fun y4 g4 i4 => ?_)
  refine gh_aload_n C dR_init_22 rfl ?_
  refine gh_sipush C 2600 dR_init_23 (by decide) ?_
  refine rw_newI C 2600 i4 ⟨by decide, rfl, rfl, rfl⟩ ⟨rfl, by decide⟩ pR_16 rfl 41 30208 (Nat.le_of_ble_eq_true rfl) (Nat.le_of_ble_eq_true rfl) dR_init_26 dR_init_28 (fun y5 g5 i5 => ?_)
  refine gh_aload_n C dR_init_31 rfl ?_
  refine gh_sipush C 2600 dR_init_32 (by decide) ?_
  refine rw_newZ C 2600 i5 ⟨by decide, rfl, rfl, rfl⟩ ⟨rfl, by decide⟩ pR_19 rfl 40 27608 (Nat.le_of_ble_eq_true rfl) (Nat.le_of_ble_eq_true rfl) dR_init_35 dR_init_37 (fun y6 g6 i6 => ?_)
  refine gh_aload_n C dR_init_40 rfl ?_
  refine gh_sipush C 2600 dR_init_41 (by decide) ?_
  refine rw_newZ C 2600 i6 ⟨by decide, rfl, rfl, rfl⟩ ⟨rfl, by decide⟩ pR_23 rfl 39 25008 (Nat.le_of_ble_eq_true rfl) (Nat.le_of_ble_eq_true rfl) dR_init_44 dR_init_46 (fun y7 g7 i7 => ?_)
  refine gh_aload_n C dR_init_49 rfl ?_
  refine gh_sipush C 3600 dR_init_50 (by decide) ?_
  have i8 := i7.nx (by decide)
  refine rw_newI C 3600 i8 ⟨by decide, rfl, rfl, rfl⟩ ⟨rfl, by decide⟩ pR_26 rfl 38 21408 (Nat.le_of_ble_eq_true rfl) (Nat.le_of_ble_eq_true rfl) dR_init_53 dR_init_55 (fun y9 g9 i9 => ?_)
  refine gh_aload_n C dR_init_58 rfl ?_
  refine gh_sipush C 3600 dR_init_59 (by decide) ?_
  refine rw_newI C 3600 i9 ⟨by decide, rfl, rfl, rfl⟩ ⟨rfl, by decide⟩ pR_29 rfl 37 17808 (Nat.le_of_ble_eq_true rfl) (Nat.le_of_ble_eq_true rfl) dR_init_62 dR_init_64 (fun y10 g10 i10 => ?_)
  refine gh_aload_n C dR_init_67 rfl ?_
  refine gh_sipush C 3600 dR_init_68 (by decide) ?_
  refine rw_newI C 3600 i10 ⟨by decide, rfl, rfl, rfl⟩ ⟨rfl, by decide⟩ pR_32 rfl 36 14208 (Nat.le_of_ble_eq_true rfl) (Nat.le_of_ble_eq_true rfl) dR_init_71 dR_init_73 (fun y11 g11 i11 => ?_)
  refine gh_aload_n C dR_init_76 rfl ?_
  refine gh_sipush C 3600 dR_init_77 (by decide) ?_
  refine rw_newI C 3600 i11 ⟨by decide, rfl, rfl, rfl⟩ ⟨rfl, by decide⟩ pR_35 rfl 35 10608 (Nat.le_of_ble_eq_true rfl) (Nat.le_of_ble_eq_true rfl) dR_init_80 dR_init_82 (fun y12 g12 i12 => ?_)
  refine gh_aload_n C dR_init_85 rfl ?_
  refine gh_bipush C 60 dR_init_86 (by decide) ?_
  have i13 := i12.nx (by decide)
  refine rw_newI C 60 i13 ⟨by decide, rfl, rfl, rfl⟩ ⟨rfl, by decide⟩ pR_38 rfl 34 10548 (Nat.le_of_ble_eq_true rfl) (Nat.le_of_ble_eq_true rfl) dR_init_88 dR_init_90 (fun y14 g14 i14 => ?_)
  refine gh_aload_n C dR_init_93 rfl ?_
  refine gh_bipush C 60 dR_init_94 (by decide) ?_
  refine rw_newI C 60 i14 ⟨by decide, rfl, rfl, rfl⟩ ⟨rfl, by decide⟩ pR_41 rfl 33 10488 (Nat.le_of_ble_eq_true rfl) (Nat.le_of_ble_eq_true rfl) dR_init_96 dR_init_98 (fun y15 g15 i15 => ?_)
  refine gh_aload_n C dR_init_101 rfl ?_
  refine gh_bipush C 60 dR_init_102 (by decide) ?_
  refine rw_newI C 60 i15 ⟨by decide, rfl, rfl, rfl⟩ ⟨rfl, by decide⟩ pR_44 rfl 32 10428 (Nat.le_of_ble_eq_true rfl) (Nat.le_of_ble_eq_true rfl) dR_init_104 dR_init_106 (fun y16 g16 i16 => ?_)
  refine gh_aload_n C dR_init_109 rfl ?_
  refine gh_bipush C 60 dR_init_110 (by decide) ?_
  refine rw_newI C 60 i16 ⟨by decide, rfl, rfl, rfl⟩ ⟨rfl, by decide⟩ pR_47 rfl 31 10368 (Nat.le_of_ble_eq_true rfl) (Nat.le_of_ble_eq_true rfl) dR_init_112 dR_init_114 (fun y17 g17 i17 => ?_)
  refine gh_aload_n C dR_init_117 rfl ?_
  refine gh_bipush C 60 dR_init_118 (by decide) ?_
  refine rw_newI C 60 i17 ⟨by decide, rfl, rfl, rfl⟩ ⟨rfl, by decide⟩ pR_50 rfl 30 10308 (Nat.le_of_ble_eq_true rfl) (Nat.le_of_ble_eq_true rfl) dR_init_120 dR_init_122 (fun y18 g18 i18 => ?_)
  refine gh_aload_n C dR_init_125 rfl ?_
  refine gh_bipush C 60 dR_init_126 (by decide) ?_
  refine rw_newI C 60 i18 ⟨by decide, rfl, rfl, rfl⟩ ⟨rfl, by decide⟩ pR_53 rfl 29 10248 (Nat.le_of_ble_eq_true rfl) (Nat.le_of_ble_eq_true rfl) dR_init_128 dR_init_130 (fun y19 g19 i19 => ?_)
  refine gh_aload_n C dR_init_133 rfl ?_
  refine gh_bipush C 60 dR_init_134 (by decide) ?_
  refine rw_newI C 60 i19 ⟨by decide, rfl, rfl, rfl⟩ ⟨rfl, by decide⟩ pR_56 rfl 28 10188 (Nat.le_of_ble_eq_true rfl) (Nat.le_of_ble_eq_true rfl) dR_init_136 dR_init_138 (fun y20 g20 i20 => ?_)
  refine gh_aload_n C dR_init_141 rfl ?_
  refine gh_bipush C 60 dR_init_142 (by decide) ?_
  refine rw_newI C 60 i20 ⟨by decide, rfl, rfl, rfl⟩ ⟨rfl, by decide⟩ pR_59 rfl 27 10128 (Nat.le_of_ble_eq_true rfl) (Nat.le_of_ble_eq_true rfl) dR_init_144 dR_init_146 (fun y21 g21 i21 => ?_)
  refine gh_aload_n C dR_init_149 rfl ?_
  refine gh_bipush C 60 dR_init_150 (by decide) ?_
  refine rw_newZ C 60 i21 ⟨by decide, rfl, rfl, rfl⟩ ⟨rfl, by decide⟩ pR_62 rfl 26 10068 (Nat.le_of_ble_eq_true rfl) (Nat.le_of_ble_eq_true rfl) dR_init_152 dR_init_154 (fun y22 g22 i22 => ?_)
  refine gh_aload_n C dR_init_157 rfl ?_
  refine gh_sipush C 1860 dR_init_158 (by decide) ?_
  refine rw_newI C 1860 i22 ⟨by decide, rfl, rfl, rfl⟩ ⟨rfl, by decide⟩ pR_65 rfl 25 8208 (Nat.le_of_ble_eq_true rfl) (Nat.le_of_ble_eq_true rfl) dR_init_161 dR_init_163 (fun y23 g23 i23 => ?_)
  refine gh_aload_n C dR_init_166 rfl ?_
  refine gh_sipush C 1860 dR_init_167 (by decide) ?_
  refine rw_newI C 1860 i23 ⟨by decide, rfl, rfl, rfl⟩ ⟨rfl, by decide⟩ pR_68 rfl 24 6348 (Nat.le_of_ble_eq_true rfl) (Nat.le_of_ble_eq_true rfl) dR_init_170 dR_init_172 (fun y24 g24 i24 => ?_)
  refine gh_aload_n C dR_init_175 rfl ?_
  refine gh_sipush C 1860 dR_init_176 (by decide) ?_
  refine rw_newI C 1860 i24 ⟨by decide, rfl, rfl, rfl⟩ ⟨rfl, by decide⟩ pR_71 rfl 23 4488 (Nat.le_of_ble_eq_true rfl) (Nat.le_of_ble_eq_true rfl) dR_init_179 dR_init_181 (fun y25 g25 i25 => ?_)
  refine gh_aload_n C dR_init_184 rfl ?_
  refine gh_sipush C 1860 dR_init_185 (by decide) ?_
  refine rw_newI C 1860 i25 ⟨by decide, rfl, rfl, rfl⟩ ⟨rfl, by decide⟩ pR_74 rfl 22 2628 (Nat.le_of_ble_eq_true rfl) (Nat.le_of_ble_eq_true rfl) dR_init_188 dR_init_190 (fun y26 g26 i26 => ?_)
  refine gh_aload_n C dR_init_193 rfl ?_
  refine gh_sipush C 960 dR_init_194 (by decide) ?_
  refine rw_newI C 960 i26 ⟨by decide, rfl, rfl, rfl⟩ ⟨rfl, by decide⟩ pR_77 rfl 21 1668 (Nat.le_of_ble_eq_true rfl) (Nat.le_of_ble_eq_true rfl) dR_init_197 dR_init_199 (fun y27 g27 i27 => ?_)
  refine gh_aload_n C dR_init_202 rfl ?_
  refine gh_bipush C 16 dR_init_203 (by decide) ?_
  refine rw_newI C 16 i27 ⟨by decide, rfl, rfl, rfl⟩ ⟨rfl, by decide⟩ pR_80 rfl 20 1652 (Nat.le_of_ble_eq_true rfl) (Nat.le_of_ble_eq_true rfl) dR_init_205 dR_init_207 (fun y28 g28 i28 => ?_)
  refine gh_aload_n C dR_init_210 rfl ?_
  refine gh_bipush C 16 dR_init_211 (by decide) ?_
  refine rw_newI C 16 i28 ⟨by decide, rfl, rfl, rfl⟩ ⟨rfl, by decide⟩ pR_83 rfl 19 1636 (Nat.le_of_ble_eq_true rfl) (Nat.le_of_ble_eq_true rfl) dR_init_213 dR_init_215 (fun y29 g29 i29 => ?_)
  refine gh_aload_n C dR_init_218 rfl ?_
  refine gh_bipush C 16 dR_init_219 (by decide) ?_
  refine rw_newI C 16 i29 ⟨by decide, rfl, rfl, rfl⟩ ⟨rfl, by decide⟩ pR_86 rfl 18 1620 (Nat.le_of_ble_eq_true rfl) (Nat.le_of_ble_eq_true rfl) dR_init_221 dR_init_223 (fun y30 g30 i30 => ?_)
  refine gh_aload_n C dR_init_226 rfl ?_
  refine gh_bipush C 16 dR_init_227 (by decide) ?_
  refine rw_newI C 16 i30 ⟨by decide, rfl, rfl, rfl⟩ ⟨rfl, by decide⟩ pR_89 rfl 17 1604 (Nat.le_of_ble_eq_true rfl) (Nat.le_of_ble_eq_true rfl) dR_init_229 dR_init_231 (fun y31 g31 i31 => ?_)
  refine gh_aload_n C dR_init_234 rfl ?_
  refine gh_bipush C 16 dR_init_235 (by decide) ?_
  refine rw_newI C 16 i31 ⟨by decide, rfl, rfl, rfl⟩ ⟨rfl, by decide⟩ pR_92 rfl 16 1588 (Nat.le_of_ble_eq_true rfl) (Nat.le_of_ble_eq_true rfl) dR_init_237 dR_init_239 (fun y32 g32 i32 => ?_)
  refine gh_aload_n C dR_init_242 rfl ?_
  refine gh_bipush C 16 dR_init_243 (by decide) ?_
  refine rw_newZ C 16 i32 ⟨by decide, rfl, rfl, rfl⟩ ⟨rfl, by decide⟩ pR_95 rfl 15 1572 (Nat.le_of_ble_eq_true rfl) (Nat.le_of_ble_eq_true rfl) dR_init_245 dR_init_247 (fun y33 g33 i33 => ?_)
  refine gh_aload_n C dR_init_250 rfl ?_
  refine gh_sipush C 496 dR_init_251 (by decide) ?_
  refine rw_newI C 496 i33 ⟨by decide, rfl, rfl, rfl⟩ ⟨rfl, by decide⟩ pR_98 rfl 14 1076 (Nat.le_of_ble_eq_true rfl) (Nat.le_of_ble_eq_true rfl) dR_init_254 dR_init_256 (fun y34 g34 i34 => ?_)
  refine gh_aload_n C dR_init_259 rfl ?_
  refine gh_sipush C 320 dR_init_260 (by decide) ?_
  refine rw_newI C 320 i34 ⟨by decide, rfl, rfl, rfl⟩ ⟨rfl, by decide⟩ pR_101 rfl 13 756 (Nat.le_of_ble_eq_true rfl) (Nat.le_of_ble_eq_true rfl) dR_init_263 dR_init_265 (fun y35 g35 i35 => ?_)
  refine gh_aload_n C dR_init_268 rfl ?_
  refine gh_bipush C 60 dR_init_269 (by decide) ?_
  have i36 := i35.nx (by decide)
  refine rw_newI C 60 i36 ⟨by decide, rfl, rfl, rfl⟩ ⟨rfl, by decide⟩ pR_104 rfl 12 696 (Nat.le_of_ble_eq_true rfl) (Nat.le_of_ble_eq_true rfl) dR_init_271 dR_init_273 (fun y37 g37 i37 => ?_)
  refine gh_aload_n C dR_init_276 rfl ?_
  refine gh_bipush C 60 dR_init_277 (by decide) ?_
  refine rw_newI C 60 i37 ⟨by decide, rfl, rfl, rfl⟩ ⟨rfl, by decide⟩ pR_107 rfl 11 636 (Nat.le_of_ble_eq_true rfl) (Nat.le_of_ble_eq_true rfl) dR_init_279 dR_init_281 (fun y38 g38 i38 => ?_)
  refine gh_aload_n C dR_init_284 rfl ?_
  refine gh_bipush C 60 dR_init_285 (by decide) ?_
  refine rw_newI C 60 i38 ⟨by decide, rfl, rfl, rfl⟩ ⟨rfl, by decide⟩ pR_110 rfl 10 576 (Nat.le_of_ble_eq_true rfl) (Nat.le_of_ble_eq_true rfl) dR_init_287 dR_init_289 (fun y39 g39 i39 => ?_)
  refine gh_aload_n C dR_init_292 rfl ?_
  refine gh_bipush C 60 dR_init_293 (by decide) ?_
  refine rw_newI C 60 i39 ⟨by decide, rfl, rfl, rfl⟩ ⟨rfl, by decide⟩ pR_113 rfl 9 516 (Nat.le_of_ble_eq_true rfl) (Nat.le_of_ble_eq_true rfl) dR_init_295 dR_init_297 (fun y40 g40 i40 => ?_)
  refine gh_aload_n C dR_init_300 rfl ?_
  refine gh_bipush C 60 dR_init_301 (by decide) ?_
  refine rw_newI C 60 i40 ⟨by decide, rfl, rfl, rfl⟩ ⟨rfl, by decide⟩ pR_116 rfl 8 456 (Nat.le_of_ble_eq_true rfl) (Nat.le_of_ble_eq_true rfl) dR_init_303 dR_init_305 (fun y41 g41 i41 => ?_)
  refine gh_aload_n C dR_init_308 rfl ?_
  refine gh_bipush C 60 dR_init_309 (by decide) ?_
  refine rw_newZ C 60 i41 ⟨by decide, rfl, rfl, rfl⟩ ⟨rfl, by decide⟩ pR_119 rfl 7 396 (Nat.le_of_ble_eq_true rfl) (Nat.le_of_ble_eq_true rfl) dR_init_311 dR_init_313 (fun y42 g42 i42 => ?_)
  refine gh_aload_n C dR_init_316 rfl ?_
  refine gh_bipush C 20 dR_init_317 (by decide) ?_
  have i43 := i42.nx (by decide)
  refine rw_newI C 20 i43 ⟨by decide, rfl, rfl, rfl⟩ ⟨rfl, by decide⟩ pR_122 rfl 6 376 (Nat.le_of_ble_eq_true rfl) (Nat.le_of_ble_eq_true rfl) dR_init_319 dR_init_321 (fun y44 g44 i44 => ?_)
  refine gh_aload_n C dR_init_324 rfl ?_
  refine gh_bipush C 20 dR_init_325 (by decide) ?_
  refine rw_newI C 20 i44 ⟨by decide, rfl, rfl, rfl⟩ ⟨rfl, by decide⟩ pR_125 rfl 5 356 (Nat.le_of_ble_eq_true rfl) (Nat.le_of_ble_eq_true rfl) dR_init_327 dR_init_329 (fun y45 g45 i45 => ?_)
  refine gh_aload_n C dR_init_332 rfl ?_
  refine gh_bipush C 20 dR_init_333 (by decide) ?_
  refine rw_newI C 20 i45 ⟨by decide, rfl, rfl, rfl⟩ ⟨rfl, by decide⟩ pR_128 rfl 4 336 (Nat.le_of_ble_eq_true rfl) (Nat.le_of_ble_eq_true rfl) dR_init_335 dR_init_337 (fun y46 g46 i46 => ?_)
  refine gh_aload_n C dR_init_340 rfl ?_
  refine gh_sipush C 256 dR_init_341 (by decide) ?_
  have i47 := i46.nx (by decide)
  refine rw_newI C 256 i47 ⟨by decide, rfl, rfl, rfl⟩ ⟨rfl, by decide⟩ pR_131 rfl 3 80 (Nat.le_of_ble_eq_true rfl) (Nat.le_of_ble_eq_true rfl) dR_init_344 dR_init_346 (fun y48 g48 i48 => ?_)
  refine gh_aload_n C dR_init_349 rfl ?_
  refine gh_bipush C 32 dR_init_350 (by decide) ?_
  have i49 := i48.nx (by decide)
  refine rw_newI C 32 i49 ⟨by decide, rfl, rfl, rfl⟩ ⟨rfl, by decide⟩ pR_134 rfl 2 48 (Nat.le_of_ble_eq_true rfl) (Nat.le_of_ble_eq_true rfl) dR_init_352 dR_init_354 (fun y50 g50 i50 => ?_)
  refine gh_aload_n C dR_init_357 rfl ?_
  refine gh_bipush C 32 dR_init_358 (by decide) ?_
  refine rw_newI C 32 i50 ⟨by decide, rfl, rfl, rfl⟩ ⟨rfl, by decide⟩ pR_137 rfl 1 16 (Nat.le_of_ble_eq_true rfl) (Nat.le_of_ble_eq_true rfl) dR_init_360 dR_init_362 (fun y51 g51 i51 => ?_)
  refine gh_aload_n C dR_init_365 rfl ?_
  refine gh_bipush C 16 dR_init_366 (by decide) ?_
  refine rw_newI C 16 i51 ⟨by decide, rfl, rfl, rfl⟩ ⟨rfl, by decide⟩ pR_140 rfl 0 0 (Nat.le_of_ble_eq_true rfl) (Nat.le_of_ble_eq_true rfl) dR_init_368 dR_init_370 (fun y52 g52 i52 => ?_)
  have fz := i52.fin
  exact tail _ _ (by simp) fz
def cmT (R : SR) (x : Int32) : Nat := if inn 16 x = true then (if latR R x.toNatClampNeg = true ∧ R.1 12 ≠ 60 then 0 else 2) else 1
set_option maxRecDepth 100000 in
set_option maxHeartbeats 4000000 in
theorem r_commitX (l : Launch) (d : gh_D) (g : gh_H) {y : Nat → Nat} {R : SR} (hR : rR g y R) (x w : Int32) (hE : 1 ≤ R.1 12) (hE60 : R.1 12 ≤ 60) (ht : cmT R x ≠ 0) : gh_C l d mR_commit (rr 5 0 0) [.ref (y 0), .int x, .int w] g (fun v g1 => v = some (.int 0) ∧ rQ g g1 y (ri R 0 (cmT R x))) := by
  refine gh_of [some (.ref (y 0)), some (.int x), some (.int w)] (by decide) rfl (Nat.le_of_ble_eq_true rfl) (by simp [Value.category]) (fun z C hQ => ?_)
  show gh_W l d z 0 [some (.ref (y 0)), some (.int x), some (.int w)] [] g 0 0
  have h0 := rQ.rf hR
  refine gh_aload_n C dR_commit_0 rfl ?_
  refine gh_iload_n C dR_commit_1 rfl ?_
  refine gh_bipush C 16 dR_commit_2 (by decide) ?_
  refine gh_callS C [.int x, .int 16] (r_inn l d _ 16 x) lR_264 wR_in sR_in rfl rfl (Nat.le_of_ble_eq_true rfl) ⟨Nat.le_of_ble_eq_true rfl, Nat.le_of_ble_eq_true rfl⟩ (Nat.le_of_ble_eq_true rfl) (Nat.le_of_ble_eq_true rfl) dR_commit_4 (fun v101 g101 k101 => ?_)
  obtain ⟨rfl, e101⟩ := k101
  subst g101
  refine gh_if_ne C 14 dR_commit_7 (by decide) (fun c7 => ?_) (fun c7 => ?_)
  ·
    have e7 : inn 16 x = true := by
      by_cases h : inn 16 x = true
      · exact h
      · rw [if_neg h] at c7; exact absurd rfl c7
    obtain ⟨m, hm, hx⟩ := inn_of (by decide) e7
    have hcl : x.toNatClampNeg = m := by rw [hx]; exact nI_clamp (by omega)
    refine gh_aload_n C dR_commit_14 rfl ?_
    refine gh_iload_n C dR_commit_15 rfl ?_
    refine gh_callV C [.int x] ((by rw [hx]; exact r_isLatest l d _ h0.1 m hm hE : gh_C l d mR_isLatest (rr 0 0 0) [.ref (y 0), .int x] _ (fun v g1 => v = some (.int (if latR R m = true then 1 else 0)) ∧ g1 = _))) lR_267 wR_isLatest vR_isLatest h0.1.1 rfl rfl rfl (Nat.le_of_ble_eq_true rfl) ⟨Nat.le_of_ble_eq_true rfl, Nat.le_of_ble_eq_true rfl⟩ (Nat.le_of_ble_eq_true rfl) (Nat.le_of_ble_eq_true rfl) dR_commit_16 (fun v102 g102 k102 => ?_)
    obtain ⟨rfl, e102⟩ := k102
    subst g102
    refine gh_if_eq C 31 dR_commit_19 (by decide) (fun c19 => ?_) (fun c19 => ?_)
    ·
      have e19 : ¬ latR R m = true := fun h => by rw [if_pos h] at c19; exact absurd c19 (by decide)
      have hz : cmT R x = 2 := by unfold cmT; rw [if_pos e7, hcl]; exact if_neg (fun h => e19 h.1)
      refine gh_iconst C 2 dR_commit_31 (by decide) ?_
      refine gh_goto C 36 dR_commit_32 (by decide) ?_
      refine rw_put C h0 (2) rfl pR_155 (by decide) rfl (by decide) (fun _ => rfl) (fun _ => rfl) dR_commit_36 (fun g103 h103 => ?_)
      refine gh_aload_n C dR_commit_39 rfl ?_
      refine rw_get C h103 fR_155 rfl dR_commit_40 ?_
      refine gh_ti (nI (2)) rfl ?_
      refine gh_if_le C 48 dR_commit_43 (by decide) (fun c43 => ?_) (fun c43 => ?_)
      · exact absurd c43 (by decide)
      ·
        refine gh_iconst C 0 dR_commit_46 (by decide) ?_
        refine gh_iret C hQ rfl dR_commit_47 ?_
        exact ⟨rfl, by rw [hz]; exact h103⟩
    ·
      have e19 : latR R m = true := by
        by_cases h : latR R m = true
        · exact h
        · rw [if_neg h] at c19; exact absurd rfl c19
      refine gh_aload_n C dR_commit_22 rfl ?_
      refine rw_get C h0 fR_151 rfl dR_commit_23 ?_
      refine gh_bipush C 60 dR_commit_26 (by decide) ?_
      refine gh_icmp_ne C 35 dR_commit_28 (by decide) (fun c28 => ?_) (fun c28 => ?_)
      · exact absurd (show cmT R x = 0 by unfold cmT; rw [if_pos e7, hcl]; exact if_pos ⟨e19, fun h => c28 (by rw [h]; rfl)⟩) ht
      ·
        have hz : cmT R x = 2 := by unfold cmT; rw [if_pos e7, hcl]; exact if_neg (fun h => h.2 ((nI_eq (b := 60) (by omega) (by omega)).mp c28))
        refine gh_iconst C 2 dR_commit_31 (by decide) ?_
        refine gh_goto C 36 dR_commit_32 (by decide) ?_
        refine rw_put C h0 (2) rfl pR_155 (by decide) rfl (by decide) (fun _ => rfl) (fun _ => rfl) dR_commit_36 (fun g104 h104 => ?_)
        refine gh_aload_n C dR_commit_39 rfl ?_
        refine rw_get C h104 fR_155 rfl dR_commit_40 ?_
        refine gh_ti (nI (2)) rfl ?_
        refine gh_if_le C 48 dR_commit_43 (by decide) (fun c43 => ?_) (fun c43 => ?_)
        · exact absurd c43 (by decide)
        ·
          refine gh_iconst C 0 dR_commit_46 (by decide) ?_
          refine gh_iret C hQ rfl dR_commit_47 ?_
          exact ⟨rfl, by rw [hz]; exact h104⟩
  ·
    have e7 : ¬ inn 16 x = true := fun h => by rw [if_pos h] at c7; exact absurd c7 (by decide)
    have hz : cmT R x = 1 := if_neg e7
    refine gh_iconst C 1 dR_commit_10 (by decide) ?_
    refine gh_goto C 36 dR_commit_11 (by decide) ?_
    refine rw_put C h0 (1) rfl pR_155 (by decide) rfl (by decide) (fun _ => rfl) (fun _ => rfl) dR_commit_36 (fun g105 h105 => ?_)
    refine gh_aload_n C dR_commit_39 rfl ?_
    refine rw_get C h105 fR_155 rfl dR_commit_40 ?_
    refine gh_ti (nI (1)) rfl ?_
    refine gh_if_le C 48 dR_commit_43 (by decide) (fun c43 => ?_) (fun c43 => ?_)
    · exact absurd c43 (by decide)
    ·
      refine gh_iconst C 0 dR_commit_46 (by decide) ?_
      refine gh_iret C hQ rfl dR_commit_47 ?_
      exact ⟨rfl, by rw [hz]; exact h105⟩
