/-! doAdds -/
section GD
variable {l : Launch} {d : gh_D} {z : gh_Z} {mm : gh_M} {rm : Room} {pc : Nat} {ls : List (Option Value)} {rest : List Value} {g : gh_H} {cb sb : Nat}
theorem gh_idiv (C : gh_X d z mm rm) {x y : Int32} (hd : decode mm.2.1 pc = .ok (.idiv, 1)) (hne : ¬ y = 0) (k : gh_W l d z (pc + 1) ls (.int (x / y) :: rest) g cb sb) : gh_W l d z pc ls (.int y :: .int x :: rest) g cb sb := by
  obtain ⟨p, e, R, s, m, args, below, meth, c, nL, Q⟩ := z
  exact fun H locs la ce sl a b h i j => lv_idiv C.1.1 C.1.2.1 hd hne (k H locs la ce sl a b h i j)
theorem gh_irem (C : gh_X d z mm rm) {x y : Int32} (hd : decode mm.2.1 pc = .ok (.irem, 1)) (hne : ¬ y = 0) (k : gh_W l d z (pc + 1) ls (.int (x - x / y * y) :: rest) g cb sb) : gh_W l d z pc ls (.int y :: .int x :: rest) g cb sb := by
  obtain ⟨p, e, R, s, m, args, below, meth, c, nL, Q⟩ := z
  exact fun H locs la ce sl a b h i j => lv_irem C.1.1 C.1.2.1 hd hne (k H locs la ce sl a b h i j)
end GD
def muR (T : SR) (e a : Nat) : Nat → SR
  | 0 => T
  | h + 1 => if rK (muR T e a h) e (pn a (h + 1)) = -1 then muR T e a h else ra (muR T e a h) 23 (upd ((muR T e a h).2 23) (31 * e + pn a (h + 1)) ((muR T e a h).2 23 (31 * e + pn a (h + 1)) ||| bitN a))
theorem muR_f (T : SR) (e a h : Nat) : (muR T e a h).1 = T.1 ∧ ∀ f, f ≠ 23 → (muR T e a h).2 f = T.2 f := by
  induction h with
  | zero => exact ⟨rfl, fun _ _ => rfl⟩
  | succ h ih =>
    simp only [muR]
    by_cases hc : rK (muR T e a h) e (pn a (h + 1)) = -1
    · rw [if_pos hc]; exact ih
    · rw [if_neg hc]; exact ⟨ih.1, fun f h1 => by simp only [ra, if_neg h1]; exact ih.2 f h1⟩
def dp (T : SR) (e : Nat) : Nat := (T.2 13 e).toNatClampNeg
def ga (T : SR) (e a D : Nat) : SR := if a = 2 ^ D then ra T 13 (upd (T.2 13) e (nI (D + 1))) else T
def gD (a D : Nat) : Nat := if a = 2 ^ D then D + 1 else D
def aa1 (T : SR) (e p a D : Nat) : SR :=
  ra (ra (ra (ra (muR (stR (ga T e a D) e (2 * a) (T.2 38 p)) e a (gD a D)) 26 (upd (T.2 26) (16 * e + a) (T.2 36 p))) 19 (upd (T.2 19) e (T.2 19 e ||| bitN a))) 39 (upd (T.2 39) p (nI e))) 40 (upd (T.2 40) p (nI a))
theorem ga_f (T : SR) (e a D : Nat) : (ga T e a D).1 = T.1 ∧ ∀ f, f ≠ 13 → (ga T e a D).2 f = T.2 f := by
  unfold ga
  by_cases h : a = 2 ^ D
  · rw [if_pos h]; exact ⟨rfl, fun f h1 => by simp only [ra, if_neg h1]⟩
  · rw [if_neg h]; exact ⟨rfl, fun _ _ => rfl⟩
theorem ga_13 (T : SR) {e : Nat} (a : Nat) {D : Nat} (hD : T.2 13 e = nI D) : (ga T e a D).2 13 e = nI (gD a D) := by
  unfold ga gD
  by_cases h : a = 2 ^ D
  · rw [if_pos h, if_pos h, ra_at]; simp [upd]
  · rw [if_neg h, if_neg h]; exact hD
theorem st_f (T : SR) (e v : Nat) (k : Int32) : (stR T e v k).1 = T.1 ∧ ∀ f, f ≠ 22 → f ≠ 23 → f ≠ 24 → (stR T e v k).2 f = T.2 f := ⟨rfl, fun f h1 h2 h3 => by simp [stR, ra, h1, h2, h3]⟩
theorem mx_f (T : SR) (e p a D h : Nat) : (muR (stR (ga T e a D) e (2 * a) (T.2 38 p)) e a h).1 = T.1 ∧ ∀ f, f ≠ 13 → f ≠ 22 → f ≠ 23 → f ≠ 24 → (muR (stR (ga T e a D) e (2 * a) (T.2 38 p)) e a h).2 f = T.2 f := by
  have h1 := muR_f (stR (ga T e a D) e (2 * a) (T.2 38 p)) e a h
  have h2 := st_f (ga T e a D) e (2 * a) (T.2 38 p)
  have h3 := ga_f T e a D
  exact ⟨h1.1.trans (h2.1.trans h3.1), fun f k1 k2 k3 k4 => (h1.2 f k3).trans ((h2.2 f k2 k3 k4).trans (h3.2 f k1))⟩
theorem aa1_f (T : SR) (e p a D : Nat) : (aa1 T e p a D).1 = T.1 ∧ ∀ f, f ≠ 13 → f ≠ 19 → f ≠ 22 → f ≠ 23 → f ≠ 24 → f ≠ 26 → f ≠ 39 → f ≠ 40 → (aa1 T e p a D).2 f = T.2 f := by
  have h1 := mx_f T e p a D (gD a D)
  exact ⟨h1.1, fun f k1 k2 k3 k4 k5 k6 k7 k8 => by simp only [aa1, ra, if_neg k8, if_neg k7, if_neg k2, if_neg k6]; exact h1.2 f k1 k3 k4 k5⟩
abbrev aaQ (T : SR) (e D p m i : Nat) : Prop := T.2 43 i = 0 ∧ mbR T e D p m = true ∧ fbl D (rK T e) ≠ 16
def alp (R : SR) (i : Nat) : Nat := (R.2 45 i).toNatClampNeg
def alm (R : SR) (i : Nat) : Nat := (R.2 36 (alp R i)).toNatClampNeg
def al1 (R T : SR) (e i : Nat) : SR := if aaQ T e (dp T e) (alp R i) (alm R i) i then aa1 T e (alp R i) (fbl (dp T e) (rK T e)) (dp T e) else T
def alR (R : SR) (e : Nat) : Nat → SR
  | 0 => R
  | i + 1 => al1 R (alR R e i) e i
theorem aa1_13 {T : SR} {e p a D : Nat} (hD : T.2 13 e = nI D) : (aa1 T e p a D).2 13 e = nI (gD a D) := by
  simp only [aa1, ra]
  have h1 := (muR_f (stR (ga T e a D) e (2 * a) (T.2 38 p)) e a (gD a D)).2 13 (by decide)
  have h2 := (st_f (ga T e a D) e (2 * a) (T.2 38 p)).2 13 (by decide) (by decide) (by decide)
  simp only [if_neg (show ¬ (13 : Nat) = 40 by decide), if_neg (show ¬ (13 : Nat) = 39 by decide), if_neg (show ¬ (13 : Nat) = 19 by decide), if_neg (show ¬ (13 : Nat) = 26 by decide)]
  rw [h1, h2]
  exact ga_13 T a hD
theorem fbl_le (D : Nat) (K : Nat → Int32) : fbl D K ≤ 2 ^ D := by
  unfold fbl
  cases h : (List.range (2 ^ D)).find? (fun i => K (2 * i) == -1) with
  | none => exact Nat.le_refl _
  | some j =>
    have := List.mem_of_find?_eq_some h
    rw [List.mem_range] at this
    exact Nat.le_of_lt this
theorem gD_le {T : SR} {e D : Nat} (h4 : D ≤ 4) (h16 : fbl D (rK T e) ≠ 16) : gD (fbl D (rK T e)) D ≤ 4 ∧ fbl D (rK T e) < 16 := by
  have h1 := fbl_le D (rK T e)
  have h2 := p2D h4
  refine ⟨?_, by omega⟩
  unfold gD
  by_cases h : fbl D (rK T e) = 2 ^ D
  · rw [if_pos h]
    by_cases h9 : D = 4
    · subst h9; exact absurd h h16
    · omega
  · rw [if_neg h]; exact h4
theorem alR_f (R : SR) (e : Nat) (i : Nat) : (alR R e i).1 = R.1 ∧ ∀ f, f ≠ 13 → f ≠ 19 → f ≠ 22 → f ≠ 23 → f ≠ 24 → f ≠ 26 → f ≠ 39 → f ≠ 40 → (alR R e i).2 f = R.2 f := by
  induction i with
  | zero => exact ⟨rfl, fun _ _ _ _ _ _ _ _ _ => rfl⟩
  | succ i ih =>
    simp only [alR, al1]
    by_cases h : aaQ (alR R e i) e (dp (alR R e i) e) (alp R i) (alm R i) i
    · rw [if_pos h]
      have h9 := aa1_f (alR R e i) e (alp R i) (fbl (dp (alR R e i) e) (rK (alR R e i) e)) (dp (alR R e i) e)
      exact ⟨h9.1.trans ih.1, fun f k1 k2 k3 k4 k5 k6 k7 k8 => (h9.2 f k1 k2 k3 k4 k5 k6 k7 k8).trans (ih.2 f k1 k2 k3 k4 k5 k6 k7 k8)⟩
    · rw [if_neg h]; exact ih
theorem alR_13 (R : SR) (e : Nat) (hD : ∃ D, D ≤ 4 ∧ R.2 13 e = nI D) (i : Nat) : ∃ D, D ≤ 4 ∧ (alR R e i).2 13 e = nI D := by
  induction i with
  | zero => exact hD
  | succ i ih =>
    obtain ⟨D, h4, hd⟩ := ih
    have hdp : dp (alR R e i) e = D := by unfold dp; rw [hd]; exact nI_clamp (by omega)
    simp only [alR, al1]
    rw [hdp]
    by_cases h : aaQ (alR R e i) e D (alp R i) (alm R i) i
    · rw [if_pos h]
      exact ⟨_, (gD_le h4 h.2.2).1, aa1_13 hd⟩
    · rw [if_neg h]; exact ⟨D, h4, hd⟩
set_option maxRecDepth 100000 in
set_option maxHeartbeats 4000000 in
theorem r_doAdds (l : Launch) (d : gh_D) (g : gh_H) {y : Nat → Nat} {R : SR} (hR : rR g y R) (e D0 : Nat) (he : e < 60) (he1 : 1 ≤ e) (hD0 : R.2 13 e = nI D0) (hD04 : D0 ≤ 4) (hW : R.1 42 ≤ 20) (hpr : ∀ i, i < R.1 42 → R.2 43 i = 0 → ∃ p m, p < 60 ∧ R.2 45 i = nI p ∧ m < 16 ∧ R.2 36 p = nI m ∧ (R.2 27 m = nI (e - 1) → ∃ a, a < 16 ∧ R.2 28 m = nI a)) : gh_C l d mR_doAdds (rr 3 0 0) [.ref (y 0), .int (nI e)] g (fun v g1 => v = none ∧ rQ g g1 y (alR R e (R.1 42))) := by
  refine gh_of [some (.ref (y 0)), some (.int (nI e)), none, none, none, none] (by decide) rfl (Nat.le_of_ble_eq_true rfl) (by simp [Value.category]) (fun z C hQ => ?_)
  show gh_W l d z 0 [some (.ref (y 0)), some (.int (nI e)), none, none, none, none] [] g 0 0
  have h0 := rQ.rf hR
  have loop : ∀ (c i : Nat) (x3 x4 x5 : Option Value) (g1 : gh_H), i + c = R.1 42 → rQ g g1 y (alR R e i) → gh_W l d z 2 [some (.ref (y 0)), some (.int (nI e)), some (.int (nI i)), x3, x4, x5] [] g1 0 0 := by
    intro c
    induction c with
    | zero =>
      intro i x3 x4 x5 g1 hi h1
      have hi : i = R.1 42 := by omega
      subst hi
      have hf := alR_f R e (R.1 42)
      obtain ⟨T, eT⟩ : ∃ T, T = alR R e (R.1 42) := ⟨_, rfl⟩
      rw [← eT] at h1 hf
      have h42 : nI (T.1 42) = nI (R.1 42) := by rw [hf.1]
      refine gh_iload_n C dR_doAdds_2 rfl ?_
      refine gh_aload_n C dR_doAdds_3 rfl ?_
      refine rw_get C h1 fR_195 rfl dR_doAdds_4 ?_
      refine gh_ti (nI (R.1 42)) h42 ?_
      refine gh_icmp_ge C 210 dR_doAdds_7 (by decide) (fun c7 => ?_) (fun c7 => ?_)
      ·
        refine gh_vret C hQ rfl dR_doAdds_210 ?_
        exact ⟨rfl, by rw [← eT]; exact h1⟩
      · exact absurd (nI_le (Nat.le_refl (R.1 42)) (by omega)) c7
    | succ c ih =>
      intro i x3 x4 x5 g1 hi h1
      have hlt : i < R.1 42 := by omega
      have hf := alR_f R e i
      obtain ⟨D, hD4, hD⟩ := alR_13 R e ⟨D0, hD04, hD0⟩ i
      have inc : ∀ (x3 x4 x5 : Option Value) (g2 : gh_H), rQ g g2 y (alR R e (i + 1)) → gh_W l d z 204 [some (.ref (y 0)), some (.int (nI e)), some (.int (nI i)), x3, x4, x5] [] g2 0 0 := by
        intro x3 x4 x5 g2 h2
        refine gh_iinc C (nI (i + 1)) [some (.ref (y 0)), some (.int (nI e)), some (.int (nI (i + 1))), x3, x4, x5] dR_doAdds_204 rfl (gh_inc i) rfl ?_
        refine gh_goto C 2 dR_doAdds_207 (by decide) ?_
        exact ih (i + 1) _ _ _ g2 (by omega) h2
      obtain ⟨T, eT⟩ : ∃ T, T = alR R e i := ⟨_, rfl⟩
      rw [← eT] at h1 hf hD
      have hdp : dp T e = D := by unfold dp; rw [hD]; exact nI_clamp (by omega)
      have hs : alR R e (i + 1) = al1 R T e i := by rw [eT]; rfl
      have fld : ∀ f, f ≠ 13 → f ≠ 19 → f ≠ 22 → f ≠ 23 → f ≠ 24 → f ≠ 26 → f ≠ 39 → f ≠ 40 → T.2 f = R.2 f := hf.2
      have h42 : nI (T.1 42) = nI (R.1 42) := by rw [hf.1]
      have no : ¬ aaQ T e D (alp R i) (alm R i) i → alR R e (i + 1) = T := fun hq => by rw [hs]; unfold al1; rw [hdp, if_neg hq]
      have f43 : T.2 43 = R.2 43 := (fld 43 (by decide) (by decide) (by decide) (by decide) (by decide) (by decide) (by decide) (by decide))
      have f45 : T.2 45 = R.2 45 := (fld 45 (by decide) (by decide) (by decide) (by decide) (by decide) (by decide) (by decide) (by decide))
      have f36 : T.2 36 = R.2 36 := (fld 36 (by decide) (by decide) (by decide) (by decide) (by decide) (by decide) (by decide) (by decide))
      have f27 : T.2 27 = R.2 27 := (fld 27 (by decide) (by decide) (by decide) (by decide) (by decide) (by decide) (by decide) (by decide))
      have f28 : T.2 28 = R.2 28 := (fld 28 (by decide) (by decide) (by decide) (by decide) (by decide) (by decide) (by decide) (by decide))
      refine gh_iload_n C dR_doAdds_2 rfl ?_
      refine gh_aload_n C dR_doAdds_3 rfl ?_
      refine rw_get C h1 fR_195 rfl dR_doAdds_4 ?_
      refine gh_ti (nI (R.1 42)) h42 ?_
      refine gh_icmp_ge C 210 dR_doAdds_7 (by decide) (fun c7 => ?_) (fun c7 => ?_)
      · exact absurd c7 (nI_ge hlt (by omega))
      ·
        refine gh_aload_n C dR_doAdds_10 rfl ?_
        refine rw_get C h1 fR_128 rfl dR_doAdds_11 ?_
        refine gh_iload_n C dR_doAdds_14 rfl ?_
        refine rw_ild C h1 45 20 ⟨rfl, rfl, rfl, by decide⟩ (i) rfl (by omega) dR_doAdds_15 ?_
        refine gh_ti (R.2 45 i) (by rw [f45]) ?_
        refine gh_istore_n C [some (.ref (y 0)), some (.int (nI e)), some (.int (nI i)), some (.int (R.2 45 i)), x4, x5] dR_doAdds_16 rfl (Nat.le_of_ble_eq_true rfl) ?_
        refine gh_aload_n C dR_doAdds_17 rfl ?_
        refine rw_get C h1 fR_122 rfl dR_doAdds_18 ?_
        refine gh_iload_n C dR_doAdds_21 rfl ?_
        refine rw_ild C h1 43 20 ⟨rfl, rfl, rfl, by decide⟩ (i) rfl (by omega) dR_doAdds_22 ?_
        refine gh_ti (R.2 43 i) (by rw [f43]) ?_
        refine gh_if_ne C 204 dR_doAdds_23 (by decide) (fun c23 => ?_) (fun c23 => ?_)
        · exact inc _ _ _ _ (by rw [no (fun hq => absurd (by rw [← f43]; exact hq.1) c23)]; exact h1)
        ·
          obtain ⟨p, m, hp, hpp, hm, hpm, hal⟩ := hpr i hlt c23
          have hcp : alp R i = p := by unfold alp; rw [hpp]; exact nI_clamp (by omega)
          have hcm : alm R i = m := by unfold alm; rw [hcp, hpm]; exact nI_clamp (by omega)
          rw [hpp]
          rw [hcp, hcm] at no
          have hs1 : aaQ T e D p m i → alR R e (i + 1) = aa1 T e p (fbl D (rK T e)) D := fun hq => by rw [hs]; unfold al1; rw [hdp, hcp, hcm, if_pos hq]
          refine gh_aload_n C dR_doAdds_26 rfl ?_
          refine gh_iload_n C dR_doAdds_27 rfl ?_
          refine gh_iload_n C dR_doAdds_28 rfl ?_
          refine gh_callV C [.int (nI e), .int (nI p)] (r_mayAdd l d _ h1.1 e D p m he he1 hp hD hD4 hm (by rw [f36]; exact hpm) (by rw [f27, f28]; exact hal)) lR_211 wR_mayAdd vR_mayAdd h1.1.1 rfl rfl rfl (Nat.le_of_ble_eq_true rfl) ⟨Nat.le_of_ble_eq_true rfl, Nat.le_of_ble_eq_true rfl⟩ (Nat.le_of_ble_eq_true rfl) (Nat.le_of_ble_eq_true rfl) dR_doAdds_29 (fun v101 g101 k101 => ?_)
          obtain ⟨rfl, e101⟩ := k101
          subst g101
          refine gh_if_eq C 204 dR_doAdds_32 (by decide) (fun c32 => ?_) (fun c32 => ?_)
          · exact inc _ _ _ _ (by rw [no (fun hq => by rw [if_pos hq.2.1] at c32; exact absurd c32 (by decide))]; exact h1)
          ·
            have hmb : mbR T e D p m = true := by
              by_cases h : mbR T e D p m = true
              · exact h
              · rw [if_neg h] at c32; exact absurd rfl c32
            refine gh_aload_n C dR_doAdds_35 rfl ?_
            refine gh_iload_n C dR_doAdds_36 rfl ?_
            refine gh_callV C [.int (nI e)] (r_freeLeaf l d _ h1.1 e D he hD hD4) lR_215 wR_freeLeaf vR_freeLeaf h1.1.1 rfl rfl rfl (Nat.le_of_ble_eq_true rfl) ⟨Nat.le_of_ble_eq_true rfl, Nat.le_of_ble_eq_true rfl⟩ (Nat.le_of_ble_eq_true rfl) (Nat.le_of_ble_eq_true rfl) dR_doAdds_37 (fun v102 g102 k102 => ?_)
            obtain ⟨rfl, e102⟩ := k102
            subst g102
            refine gh_bipush C 16 dR_doAdds_40 (by decide) ?_
            refine gh_icmp_ne C 48 dR_doAdds_42 (by decide) (fun c42 => ?_) (fun c42 => ?_)
            ·
              have h16 : fbl D (rK T e) ≠ 16 := fun h => c42 (by rw [h]; rfl)
              have hgd := gD_le hD4 h16
              obtain ⟨a, ea⟩ : ∃ a, a = fbl D (rK T e) := ⟨_, rfl⟩
              have hq : aaQ T e D p m i := ⟨by rw [f43]; exact c23, hmb, h16⟩
              have hs2 := hs1 hq
              rw [← ea] at hgd hs2
              have h2a := fbl_le D (rK T e)
              rw [← ea] at h2a
              have h2D := p2D hD4
              refine gh_aload_n C dR_doAdds_48 rfl ?_
              refine gh_iload_n C dR_doAdds_49 rfl ?_
              refine gh_callV C [.int (nI e)] (r_freeLeaf l d _ h1.1 e D he hD hD4) lR_215 wR_freeLeaf vR_freeLeaf h1.1.1 rfl rfl rfl (Nat.le_of_ble_eq_true rfl) ⟨Nat.le_of_ble_eq_true rfl, Nat.le_of_ble_eq_true rfl⟩ (Nat.le_of_ble_eq_true rfl) (Nat.le_of_ble_eq_true rfl) dR_doAdds_50 (fun v103 g103 k103 => ?_)
              obtain ⟨rfl, e103⟩ := k103
              subst g103
              rw [← ea]
              refine gh_istore C [some (.ref (y 0)), some (.int (nI e)), some (.int (nI i)), some (.int (nI p)), some (.int (nI a)), x5] dR_doAdds_53 rfl (Nat.le_of_ble_eq_true rfl) ?_
              refine gh_iload C dR_doAdds_55 rfl ?_
              refine gh_iconst C 1 dR_doAdds_57 (by decide) ?_
              refine gh_aload_n C dR_doAdds_58 rfl ?_
              refine rw_get C h1 fR_38 rfl dR_doAdds_59 ?_
              refine gh_iload_n C dR_doAdds_62 rfl ?_
              refine rw_ild C h1 13 60 ⟨rfl, rfl, rfl, by decide⟩ (e) rfl (by omega) dR_doAdds_63 ?_
              refine gh_ti (nI D) hD ?_
              refine gh_ishl C dR_doAdds_64 ?_
              refine gh_ti (nI (2 ^ D)) (sh1h D hD4) ?_
              obtain ⟨T1, eT1⟩ : ∃ T1, T1 = stR (ga T e a D) e (2 * a) (T.2 38 p) := ⟨_, rfl⟩
              obtain ⟨D1, eD1⟩ : ∃ D1, D1 = gD a D := ⟨_, rfl⟩
              have hga13 := ga_13 T a hD
              rw [← eD1] at hgd hga13
              have mf : ∀ h, (muR T1 e a h).1 = T.1 ∧ ∀ f, f ≠ 13 → f ≠ 22 → f ≠ 23 → f ≠ 24 → (muR T1 e a h).2 f = T.2 f := fun h => by rw [eT1]; exact mx_f T e p a D h
              have m13 : ∀ h, (muR T1 e a h).2 13 e = nI D1 := fun h => by
                rw [(muR_f T1 e a h).2 13 (by decide), eT1, (st_f (ga T e a D) e (2 * a) (T.2 38 p)).2 13 (by decide) (by decide) (by decide)]; exact hga13
              have loopU : ∀ (c h : Nat) (g2 : gh_H), h + c = D1 → rQ g g2 y (muR T1 e a h) → gh_W l d z 96 [some (.ref (y 0)), some (.int (nI e)), some (.int (nI i)), some (.int (nI p)), some (.int (nI a)), some (.int (nI (h + 1)))] [] g2 0 0 := by
                intro c
                induction c with
                | zero =>
                  intro h g2 hh h2
                  have hh : h = D1 := by omega
                  have fm := mf h
                  have f13 := m13 h
                  obtain ⟨X, eX⟩ : ∃ X, X = muR T1 e a h := ⟨_, rfl⟩
                  rw [← eX] at h2 fm f13
                  refine gh_iload C dR_doAdds_96 rfl ?_
                  refine gh_aload_n C dR_doAdds_98 rfl ?_
                  refine rw_get C h2 fR_38 rfl dR_doAdds_99 ?_
                  refine gh_iload_n C dR_doAdds_102 rfl ?_
                  refine rw_ild C h2 13 60 ⟨rfl, rfl, rfl, by decide⟩ (e) rfl (by omega) dR_doAdds_103 ?_
                  refine gh_ti (nI D1) f13 ?_
                  refine gh_icmp_gt C 158 dR_doAdds_104 (by decide) (fun c104 => ?_) (fun c104 => ?_)
                  ·
                    refine gh_aload_n C dR_doAdds_158 rfl ?_
                    refine rw_get C h2 fR_77 rfl dR_doAdds_159 ?_
                    refine gh_bipush C 16 dR_doAdds_162 (by decide) ?_
                    refine gh_iload_n C dR_doAdds_164 rfl ?_
                    refine gh_imul C dR_doAdds_165 ?_
                    refine gh_ti (nI (16 * e)) (pk_mul 16 e) ?_
                    refine gh_iload C dR_doAdds_166 rfl ?_
                    refine gh_iadd C dR_doAdds_168 ?_
                    refine gh_ti (nI (16 * e + a)) (nI_add (16 * e) a) ?_
                    refine gh_aload_n C dR_doAdds_169 rfl ?_
                    refine rw_get C h2 fR_104 rfl dR_doAdds_170 ?_
                    refine gh_iload_n C dR_doAdds_173 rfl ?_
                    refine rw_ild C h2 36 60 ⟨rfl, rfl, rfl, by decide⟩ (p) rfl (by omega) dR_doAdds_174 ?_
                    refine gh_ti (T.2 36 p) (by rw [fm.2 36 (by decide) (by decide) (by decide) (by decide)]) ?_
                    refine rw_ist C h2 26 960 ⟨rfl, rfl, rfl, by decide⟩ (16 * e + a) rfl (by omega) dR_doAdds_175 (fun g101 h101 => ?_)
                    have h101 : rQ g g101 y (ra X 26 (upd (X.2 26) (16 * e + a) (T.2 36 p))) := h101
                    refine gh_aload_n C dR_doAdds_176 rfl ?_
                    refine rw_get C h101 fR_56 rfl dR_doAdds_177 ?_
                    refine gh_iload_n C dR_doAdds_180 rfl ?_
                    refine gh_dup2 C dR_doAdds_181 rfl rfl ?_
                    refine rw_ild C h101 19 60 ⟨rfl, rfl, rfl, by decide⟩ (e) rfl (by omega) dR_doAdds_182 ?_
                    refine gh_ti (T.2 19 e) (by show X.2 19 e = T.2 19 e; rw [fm.2 19 (by decide) (by decide) (by decide) (by decide)]) ?_
                    refine gh_iconst C 1 dR_doAdds_183 (by decide) ?_
                    refine gh_iload C dR_doAdds_184 rfl ?_
                    refine gh_ishl C dR_doAdds_186 ?_
                    refine gh_ior C dR_doAdds_187 ?_
                    refine rw_ist C h101 19 60 ⟨rfl, rfl, rfl, by decide⟩ (e) rfl (by omega) dR_doAdds_188 (fun g102 h102 => ?_)
                    have h102 : rQ g g102 y (ra (ra X 26 (upd (X.2 26) (16 * e + a) (T.2 36 p))) 19 (upd (X.2 19) e ((T.2 19 e) ||| (1 <<< ((nI a) &&& 31))))) := h102
                    refine gh_aload_n C dR_doAdds_189 rfl ?_
                    refine rw_get C h102 fR_113 rfl dR_doAdds_190 ?_
                    refine gh_iload_n C dR_doAdds_193 rfl ?_
                    refine gh_iload_n C dR_doAdds_194 rfl ?_
                    refine rw_ist C h102 39 60 ⟨rfl, rfl, rfl, by decide⟩ (p) rfl (by omega) dR_doAdds_195 (fun g103 h103 => ?_)
                    have h103 : rQ g g103 y (ra (ra (ra X 26 (upd (X.2 26) (16 * e + a) (T.2 36 p))) 19 (upd (X.2 19) e ((T.2 19 e) ||| (1 <<< ((nI a) &&& 31))))) 39 (upd (X.2 39) p (nI e))) := h103
                    refine gh_aload_n C dR_doAdds_196 rfl ?_
                    refine rw_get C h103 fR_116 rfl dR_doAdds_197 ?_
                    refine gh_iload_n C dR_doAdds_200 rfl ?_
                    refine gh_iload C dR_doAdds_201 rfl ?_
                    refine rw_ist C h103 40 60 ⟨rfl, rfl, rfl, by decide⟩ (p) rfl (by omega) dR_doAdds_203 (fun g104 h104 => ?_)
                    have h104 : rQ g g104 y (ra (ra (ra (ra X 26 (upd (X.2 26) (16 * e + a) (T.2 36 p))) 19 (upd (X.2 19) e ((T.2 19 e) ||| (1 <<< ((nI a) &&& 31))))) 39 (upd (X.2 39) p (nI e))) 40 (upd (X.2 40) p (nI a))) := h104
                    refine inc _ _ _ _ ?_
                    have e26 := fm.2 26 (by decide) (by decide) (by decide) (by decide)
                    have e19 := fm.2 19 (by decide) (by decide) (by decide) (by decide)
                    have e39 := fm.2 39 (by decide) (by decide) (by decide) (by decide)
                    have e40 := fm.2 40 (by decide) (by decide) (by decide) (by decide)
                    rw [hs2]
                    unfold aa1
                    rw [← eD1, ← eT1, ← hh, ← eX, ← e26, ← e39, ← e40]
                    have h9 := h104
                    rw [e19] at h9
                    exact h9
                  · exact absurd (show nI D1 < nI (h + 1) from nI_lt (by omega) (by omega)) c104
                | succ c ihU =>
                  intro h g2 hh h2
                  have fm := mf h
                  have f13 := m13 h
                  have hpn := pn_lt (h + 1) (show h + 1 ≤ 4 by omega) a hgd.2
                  have incU : ∀ (g3 : gh_H), rQ g g3 y (muR T1 e a (h + 1)) → gh_W l d z 152 [some (.ref (y 0)), some (.int (nI e)), some (.int (nI i)), some (.int (nI p)), some (.int (nI a)), some (.int (nI (h + 1)))] [] g3 0 0 := by
                    intro g3 h3
                    refine gh_iinc C (nI (h + 1 + 1)) [some (.ref (y 0)), some (.int (nI e)), some (.int (nI i)), some (.int (nI p)), some (.int (nI a)), some (.int (nI (h + 1 + 1)))] dR_doAdds_152 rfl (gh_inc (h + 1)) rfl ?_
                    refine gh_goto C 96 dR_doAdds_155 (by decide) ?_
                    exact ihU (h + 1) g3 (by omega) h3
                  obtain ⟨X, eX⟩ : ∃ X, X = muR T1 e a h := ⟨_, rfl⟩
                  have hsX : muR T1 e a (h + 1) = if rK X e (pn a (h + 1)) = -1 then X else ra X 23 (upd (X.2 23) (31 * e + pn a (h + 1)) (X.2 23 (31 * e + pn a (h + 1)) ||| bitN a)) := by rw [eX]; rfl
                  rw [← eX] at h2 fm f13
                  refine gh_iload C dR_doAdds_96 rfl ?_
                  refine gh_aload_n C dR_doAdds_98 rfl ?_
                  refine rw_get C h2 fR_38 rfl dR_doAdds_99 ?_
                  refine gh_iload_n C dR_doAdds_102 rfl ?_
                  refine rw_ild C h2 13 60 ⟨rfl, rfl, rfl, by decide⟩ (e) rfl (by omega) dR_doAdds_103 ?_
                  refine gh_ti (nI D1) f13 ?_
                  refine gh_icmp_gt C 158 dR_doAdds_104 (by decide) (fun c104 => ?_) (fun c104 => ?_)
                  · exact absurd (show nI D1 < nI (h + 1) from c104) (nI_nlt (by omega) (by omega))
                  ·
                    refine gh_aload_n C dR_doAdds_107 rfl ?_
                    refine rw_get C h2 fR_65 rfl dR_doAdds_108 ?_
                    refine gh_bipush C 31 dR_doAdds_111 (by decide) ?_
                    refine gh_iload_n C dR_doAdds_113 rfl ?_
                    refine gh_imul C dR_doAdds_114 ?_
                    refine gh_ti (nI (31 * e)) (pk_mul 31 e) ?_
                    refine gh_iload C dR_doAdds_115 rfl ?_
                    refine gh_iload C dR_doAdds_117 rfl ?_
                    refine gh_callS C [.int (nI a), .int (nI (h + 1))] (r_above l d _ a (h + 1) hgd.2 (by omega)) lR_168 wR_above sR_above rfl rfl (Nat.le_of_ble_eq_true rfl) ⟨Nat.le_of_ble_eq_true rfl, Nat.le_of_ble_eq_true rfl⟩ (Nat.le_of_ble_eq_true rfl) (Nat.le_of_ble_eq_true rfl) dR_doAdds_119 (fun v101 g101 k101 => ?_)
                    obtain ⟨rfl, e101⟩ := k101
                    subst g101
                    refine gh_iadd C dR_doAdds_122 ?_
                    refine gh_ti (nI (31 * e + pn a (h + 1))) (nI_add (31 * e) (pn a (h + 1))) ?_
                    refine rw_ild C h2 22 1860 ⟨rfl, rfl, rfl, by decide⟩ (31 * e + pn a (h + 1)) rfl (by omega) dR_doAdds_123 ?_
                    refine gh_iconst C (-1) dR_doAdds_124 (by decide) ?_
                    refine gh_icmp_eq C 152 dR_doAdds_125 (by decide) (fun c125 => ?_) (fun c125 => ?_)
                    · exact incU _ (by rw [hsX, if_pos (show rK X e (pn a (h + 1)) = -1 from c125)]; exact h2)
                    ·
                      refine gh_aload_n C dR_doAdds_128 rfl ?_
                      refine rw_get C h2 fR_68 rfl dR_doAdds_129 ?_
                      refine gh_bipush C 31 dR_doAdds_132 (by decide) ?_
                      refine gh_iload_n C dR_doAdds_134 rfl ?_
                      refine gh_imul C dR_doAdds_135 ?_
                      refine gh_ti (nI (31 * e)) (pk_mul 31 e) ?_
                      refine gh_iload C dR_doAdds_136 rfl ?_
                      refine gh_iload C dR_doAdds_138 rfl ?_
                      refine gh_callS C [.int (nI a), .int (nI (h + 1))] (r_above l d _ a (h + 1) hgd.2 (by omega)) lR_168 wR_above sR_above rfl rfl (Nat.le_of_ble_eq_true rfl) ⟨Nat.le_of_ble_eq_true rfl, Nat.le_of_ble_eq_true rfl⟩ (Nat.le_of_ble_eq_true rfl) (Nat.le_of_ble_eq_true rfl) dR_doAdds_140 (fun v102 g102 k102 => ?_)
                      obtain ⟨rfl, e102⟩ := k102
                      subst g102
                      refine gh_iadd C dR_doAdds_143 ?_
                      refine gh_ti (nI (31 * e + pn a (h + 1))) (nI_add (31 * e) (pn a (h + 1))) ?_
                      refine gh_dup2 C dR_doAdds_144 rfl rfl ?_
                      refine rw_ild C h2 23 1860 ⟨rfl, rfl, rfl, by decide⟩ (31 * e + pn a (h + 1)) rfl (by omega) dR_doAdds_145 ?_
                      refine gh_iconst C 1 dR_doAdds_146 (by decide) ?_
                      refine gh_iload C dR_doAdds_147 rfl ?_
                      refine gh_ishl C dR_doAdds_149 ?_
                      refine gh_ior C dR_doAdds_150 ?_
                      refine rw_ist C h2 23 1860 ⟨rfl, rfl, rfl, by decide⟩ (31 * e + pn a (h + 1)) rfl (by omega) dR_doAdds_151 (fun g103 h103 => ?_)
                      have h103 : rQ g g103 y (ra X 23 (upd (X.2 23) (31 * e + pn a (h + 1)) ((X.2 23 (31 * e + pn a (h + 1))) ||| (1 <<< ((nI a) &&& 31))))) := h103
                      exact incU _ (by rw [hsX, if_neg (show ¬ rK X e (pn a (h + 1)) = -1 from c125)]; exact h103)
              have at78 : ∀ g2 : gh_H, rQ g g2 y (ga T e a D) → gh_W l d z 78 [some (.ref (y 0)), some (.int (nI e)), some (.int (nI i)), some (.int (nI p)), some (.int (nI a)), x5] [] g2 0 0 := by
                intro g2 h2
                have e38 : (ga T e a D).2 38 = T.2 38 := (ga_f T e a D).2 38 (by decide)
                obtain ⟨Y, eY⟩ : ∃ Y, Y = ga T e a D := ⟨_, rfl⟩
                rw [← eY] at h2 e38 eT1
                refine gh_aload_n C dR_doAdds_78 rfl ?_
                refine gh_iload_n C dR_doAdds_79 rfl ?_
                refine gh_iconst C 2 dR_doAdds_80 (by decide) ?_
                refine gh_iload C dR_doAdds_81 rfl ?_
                refine gh_imul C dR_doAdds_83 ?_
                refine gh_ti (nI (2 * a)) (pk_mul 2 a) ?_
                refine gh_aload_n C dR_doAdds_84 rfl ?_
                refine rw_get C h2 fR_110 rfl dR_doAdds_85 ?_
                refine gh_iload_n C dR_doAdds_88 rfl ?_
                refine rw_ild C h2 38 60 ⟨rfl, rfl, rfl, by decide⟩ (p) rfl (by omega) dR_doAdds_89 ?_
                refine gh_ti (T.2 38 p) (by rw [e38]) ?_
                refine gh_callV C [.int (nI e), .int (nI (2 * a)), .int (T.2 38 p)] (r_set l d _ h2.1 e (2 * a) (T.2 38 p) he (by have := hgd.2; omega)) lR_204 wR_set vR_set h2.1.1 rfl rfl rfl (Nat.le_of_ble_eq_true rfl) ⟨Nat.le_of_ble_eq_true rfl, Nat.le_of_ble_eq_true rfl⟩ (Nat.le_of_ble_eq_true rfl) (Nat.le_of_ble_eq_true rfl) dR_doAdds_90 (fun v101 g101 k101 => ?_)
                obtain ⟨rfl, h101⟩ := k101
                replace h101 := h2.tr h101
                refine gh_iconst C 1 dR_doAdds_93 (by decide) ?_
                refine gh_istore C [some (.ref (y 0)), some (.int (nI e)), some (.int (nI i)), some (.int (nI p)), some (.int (nI a)), some (.int 1)] dR_doAdds_94 rfl (Nat.le_of_ble_eq_true rfl) ?_
                exact loopU D1 0 _ (by omega) (by show rQ g _ y T1; rw [eT1]; exact h101)
              refine gh_icmp_ne C 78 dR_doAdds_65 (by decide) (fun c65 => ?_) (fun c65 => ?_)
              ·
                have hga : ga T e a D = T := by unfold ga; rw [if_neg (fun h => c65 (by rw [h]))]
                exact at78 _ (by rw [hga]; exact h1)
              ·
                have hga : ga T e a D = ra T 13 (upd (T.2 13) e (nI (D + 1))) := by unfold ga; rw [if_pos ((nI_eq (by omega) (by omega)).mp c65)]
                refine gh_aload_n C dR_doAdds_68 rfl ?_
                refine rw_get C h1 fR_38 rfl dR_doAdds_69 ?_
                refine gh_iload_n C dR_doAdds_72 rfl ?_
                refine gh_dup2 C dR_doAdds_73 rfl rfl ?_
                refine rw_ild C h1 13 60 ⟨rfl, rfl, rfl, by decide⟩ (e) rfl (by omega) dR_doAdds_74 ?_
                refine gh_ti (nI D) hD ?_
                refine gh_iconst C 1 dR_doAdds_75 (by decide) ?_
                refine gh_iadd C dR_doAdds_76 ?_
                refine gh_ti (nI (D + 1)) (nI_add D 1) ?_
                refine rw_ist C h1 13 60 ⟨rfl, rfl, rfl, by decide⟩ (e) rfl (by omega) dR_doAdds_77 (fun g104 h104 => ?_)
                have h104 : rQ g g104 y (ra T 13 (upd (T.2 13) e (nI (D + 1)))) := h104
                exact at78 _ (by rw [hga]; exact h104)
            · refine gh_goto C 204 dR_doAdds_45 (by decide) ?_
              exact inc _ _ _ _ (by rw [no (fun hq => hq.2.2 ((nI_eq (by have := fbl_le D (rK T e); have := p2D hD4; omega) (by decide)).mp c42))]; exact h1)
  refine gh_iconst C 0 dR_doAdds_0 (by decide) ?_
  refine gh_istore_n C [some (.ref (y 0)), some (.int (nI e)), some (.int 0), none, none, none] dR_doAdds_1 rfl (Nat.le_of_ble_eq_true rfl) ?_
  exact loop (R.1 42) 0 _ _ _ g (by omega) h0
