/-! FRAMES of a commit -/
def cof (e : Nat) (S T : SC) : Prop := (∀ c f, 2 ≤ c → f ≠ e → T.2.2 c f = S.2.2 c f) ∧ (∀ c f, 4 ≤ c → c ≤ 10 → f ≠ e → T.2.1 c f = S.2.1 c f) ∧ (∀ f, f ≠ e → T.1 2 f = S.1 2 f) ∧ (∀ c, c = 11 ∨ c = 12 ∨ c = 13 ∨ c = 16 → T.2.1 c = S.2.1 c) ∧ T.1 0 1 = S.1 0 1
theorem cof.rf {e : Nat} {S : SC} : cof e S S := ⟨fun _ _ _ _ => rfl, fun _ _ _ _ _ => rfl, fun _ _ => rfl, fun _ _ => rfl, rfl⟩
theorem cof.trans {e : Nat} {S T U : SC} (h : cof e S T) (h1 : cof e T U) : cof e S U := ⟨fun c f k1 k2 => (h1.1 c f k1 k2).trans (h.1 c f k1 k2), fun c f k1 k2 k3 => (h1.2.1 c f k1 k2 k3).trans (h.2.1 c f k1 k2 k3), fun f k => (h1.2.2.1 f k).trans (h.2.2.1 f k), fun c k => (h1.2.2.2.1 c k).trans (h.2.2.2.1 c k), h1.2.2.2.2.trans h.2.2.2.2⟩
theorem cof_sq {e : Nat} {S T : SC} (h : sq S T) (h10 : ∀ f, f ≠ e → T.2.1 10 f = S.2.1 10 f) : cof e S T := ⟨fun c f _ _ => by rw [h.2.2.2.1], fun c f k1 k2 k3 => by
  by_cases e9 : c = 10
  · subst e9; exact h10 f k3
  · rw [h.2.2.2.2 c e9 (by omega)], fun f _ => by rw [h.2.1], fun c k => h.2.2.2.2 c (by omega) (by omega), h.2.2.1 1 (by decide) (by decide)⟩
theorem cof_nw (S : SC) (e : Nat) (lf : Int32) : cof e S (nwS S e lf) := ⟨fun c f _ k2 => by simp [nwS, k2], fun c f _ _ k3 => by simp [nwS, k3], fun f k => by simp [nwS, k], fun c k => by
  funext i; simp only [nwS]; rw [if_neg (by omega)], by simp [nwS]⟩
theorem cof_dm (S : SC) (e a : Nat) : cof e S (dmS S a) := by
  have h := dq_dm S a
  exact ⟨fun c f k1 _ => by rw [h.2.2.2 c k1], fun c f k1 k2 _ => by rw [h.2.2.1 c k1 (by omega)], fun f _ => by rw [h.2.1], fun c k => h.2.2.1 c (by omega) (by omega), by rw [h.1]⟩
theorem cof_rmL (S : SC) (e : Nat) : ∀ i, cof e S (rmL S e i) := by
  intro i
  induction i with
  | zero => exact cof.rf
  | succ i ih =>
    rw [show rmL S e (i + 1) = if rmQ (rmL S e i) e i then rmD (rmL S e i) e ((rmL S e i).2.1 18 i).toNatClampNeg else rmL S e i from rfl]
    by_cases h : rmQ (rmL S e i) e i
    · rw [if_pos h]
      refine ih.trans (cof.trans ?_ (cof_dm _ e _))
      exact ⟨fun c f _ k2 => by simp [st1, trS, st2, k2], fun c f _ _ k3 => by simp [st1, trS, st2, k3], fun f _ => rfl, fun c k => by
        funext j
        rcases k with k | k | k | k <;> subst k <;> simp [st1, trS, st2], rfl⟩
    · rw [if_neg h]; exact ih
theorem cof_sh (S : SC) (e : Nat) : cof e S (shS S e) := ⟨fun c f _ k2 => by simp [shS, dpS, stN, trS, st2, k2], fun c f _ _ _ => rfl, fun f k => by simp [shS, dpS, stN, trS, st2, k], fun c _ => rfl, by simp [shS, dpS, stN, trS, st2]⟩
theorem cof_upL (S : SC) (e : Nat) : ∀ i, cof e S (upL S e i) := by
  intro i
  induction i with
  | zero => exact cof.rf
  | succ i ih =>
    rw [show upL S e (i + 1) = if upQ (upL S e i) e i then upD (upL S e i) e ((upL S e i).2.1 18 i).toNatClampNeg ((upL S e i).2.1 19 i) else upL S e i from rfl]
    by_cases h : upQ (upL S e i) e i
    · rw [if_pos h]
      refine ih.trans ⟨fun c f _ k2 => by simp [upD, gvS, st1, trS, st2, k2], fun c f _ _ k3 => by simp [upD, gvS, st1, trS, st2, k3], fun f _ => rfl, fun c k => by
        funext j
        rcases k with k | k | k | k <;> subst k <;> simp [upD, gvS, st1, trS, st2], rfl⟩
    · rw [if_neg h]; exact ih
theorem cof_adS (S : SC) (e p : Nat) : cof e S (adS S e p) := by
  have h : ∀ a D1, cof e S (adD S e p a D1) := fun a D1 => by
    have h1 := adD_K S e p a D1
    have h2 := aq_adD S e p a D1
    refine ⟨fun c f _ k2 => h1.2.2.2.2.2.2.2.2.1 c f k2, fun c f k1 k2 k3 => ?_, fun f k => h1.2.2.2.2.2.2.2.2.2.1 f k, fun c k => h2.2.2.1 c (by omega) (by omega) (by omega) (by omega), by rw [h2.1]⟩
    by_cases e9 : c = 9
    · subst e9; exact h1.2.2.2.2.2.2.2.2.2.2 f k3
    · rw [h2.2.2.1 c e9 (by omega) (by omega) (by omega)]
  unfold adS
  by_cases h1 : fbl (S.1 2 e) (S.2.2 2 e) < 2 ^ S.1 2 e
  · rw [if_pos h1]; exact h _ _
  · rw [if_neg h1]
    by_cases h2 : S.1 2 e < 4
    · rw [if_pos h2]; exact h _ _
    · rw [if_neg h2]; exact cof.rf
theorem cof_adL (S : SC) (e : Nat) : ∀ i, cof e S (adL S e i) := by
  intro i
  induction i with
  | zero => exact cof.rf
  | succ i ih =>
    rw [show adL S e (i + 1) = if adQ (adL S e i) i then adS (adL S e i) e ((adL S e i).2.1 18 i).toNatClampNeg else adL S e i from rfl]
    by_cases h : adQ (adL S e i) i
    · rw [if_pos h]; exact ih.trans (cof_adS _ e _)
    · rw [if_neg h]; exact ih
theorem cof_enc (S : SC) (e : Nat) (a c : Int32) : cof e S (encS S e a c) := cof_sq (sq_enc S e a c) (fun f hf => by simp [encS, tieS, sv1, stN, st1, hf])
theorem cof_snd (S : SC) (e : Nat) (mask s : Int32) : ∀ n, cof e S (sndS S e mask s n) := by
  intro n
  induction n with
  | zero => exact cof.rf
  | succ n ih =>
    rw [show sndS S e mask s (n + 1) = if mask &&& bitN n = 0 then sndS S e mask s n else encS (sndS S e mask s n) e (tk (S.1 2 e) (S.2.2 2 e) n) s from rfl]
    by_cases h : mask &&& bitN n = 0
    · rw [if_pos h]; exact ih
    · rw [if_neg h]; exact ih.trans (cof_enc _ e _ _)
theorem cof_pk (S : SC) (e : Nat) (sel : Nat → Bool) (s : Int32) : ∀ n, cof e S (pkS S e sel s n) := by
  intro n
  induction n with
  | zero => exact cof.rf
  | succ n ih =>
    rw [show pkS S e sel s (n + 1) = if S.2.1 14 n = nI e ∧ sel n = true then encS (pkS S e sel s n) e (S.2.1 12 n) s else pkS S e sel s n from rfl]
    by_cases h : S.2.1 14 n = nI e ∧ sel n = true
    · rw [if_pos h]; exact ih.trans (cof_enc _ e _ _)
    · rw [if_neg h]; exact ih
theorem cof_fr (S : SC) (e : Nat) : cof e S (frS S) := cof_sq (sq_fr S) (fun _ _ => rfl)
theorem cof_dr (S : SC) (e : Nat) (p q : Int32) : cof e S (dr2S S p q) := cof_sq (sq_dr2 S p q) (fun f _ => by simp [dr2S, frS, tieS, sv1, stN])
theorem cof_nx (S : SC) (e : Nat) (p : Int32) : cof e S (nxS S p) := by
  unfold nxS
  by_cases h : p = -1
  · rw [if_pos h]; exact cof_fr S e
  · rw [if_neg h]; exact cof_dr S e p (-1)
theorem cof_gv (S : SC) (e v : Nat) (k b : Int32) : cof e S (gvS S e v k b) := ⟨fun c f _ k2 => by simp [gvS, trS, st2, k2], fun _ _ _ _ _ => rfl, fun _ _ => rfl, fun _ _ => rfl, rfl⟩
theorem cof_st (S : SC) (e c : Nat) (x : Int32) (h1 : 4 ≤ c) (h2 : c ≤ 10) : cof e S (st1 S c e x) := ⟨fun _ _ _ _ => rfl, fun k f _ _ k3 => by simp [st1, k3], fun _ _ => rfl, fun k hk => by
  funext i; simp only [st1]; rw [if_neg (by omega)], rfl⟩
theorem cof_mpL (S : SC) (e a : Nat) : ∀ h, cof e S (mpL S e a h).1 := by
  intro h
  induction h with
  | zero => exact (cof_fr S e).trans (cof_gv _ e _ _ _)
  | succ h ih =>
    refine ih.trans ?_
    obtain ⟨X, eX⟩ : ∃ X, X = (mpL S e a h).1 := ⟨_, rfl⟩
    obtain ⟨p, ep⟩ : ∃ p, p = (mpL S e a h).2 := ⟨_, rfl⟩
    rw [show (mpL S e a (h + 1)).1 = (mpT (mpL S e a h).1 e a h (mpL S e a h).2).1 from rfl, ← eX, ← ep]
    unfold mpT
    by_cases hr : res (X.1 2 e) (X.2.2 2 e) (X.2.2 4 e) h (sdn a h) = 0
    · rw [if_pos hr]; exact cof_gv _ e _ _ _
    · rw [if_neg hr]
      exact (((((cof_nx X e p).trans (cof_snd _ e _ _ 31)).trans (cof_pk _ e _ _ _)).trans (cof_dr _ e _ _)).trans (cof_gv _ e _ _ _)).trans (cof_st _ e 6 _ (by decide) (by decide))
theorem cof_op (S : SC) (e : Nat) (x : Int32) : cof e S (opS S e x) := by
  have h := (((cof_dr S e (S.2.1 5 (e - 1)) (-1)).trans (cof_dr _ e (nI (sN S)) x)).trans (cof_pk _ e (fun _ => true) (nI (sN S + 1)) (sP S))).trans (cof_dr _ e (nI (sN S + 1)) (-1))
  have h2 := h.trans (cof_st _ e 5 (nI (sN (op2 S e x))) (by decide) (by decide))
  exact ⟨h2.1, h2.2.1, fun f k => h2.2.2.1 f k, h2.2.2.2.1, h2.2.2.2.2⟩
theorem cof_cm5 (S : SC) (m : Nat) (x : Int32) (hQ : sQ (cm0 S m) = sQ S) : cof (sE S) S (cm5 S m x) := by
  have h0 : cof (sE S) S (cm0 S m) := cof_nw S (sE S) _
  have h1 : cof (sE S) (cm0 S m) (cm1 S m) := (cof_rmL _ _ _).trans (cof_sh _ _)
  have h2 : cof (sE S) (cm1 S m) (cm2 S m) := cof_upL _ _ _
  have h3 : cof (sE S) (cm2 S m) (cm3 S m) := cof_adL _ _ _
  have h4 : cof (sE S) (cm3 S m) (cm4 S m x).1 := by
    unfold cm4
    by_cases hc : cmp (cm3 S m) (sE S) x
    · rw [if_pos hc]; exact (cof_mpL _ _ _ _).trans (cof_nx _ _ _)
    · rw [if_neg hc]; exact cof.rf
  exact ((((h0.trans h1).trans h2).trans h3).trans h4).trans (cof_op _ _ _)
/-! of the reference -/
theorem rof_alR (R : SR) (e : Nat) (hD : ∃ D, D ≤ 4 ∧ R.2 13 e = nI D) : ∀ i, rof e R (alR R e i) := by
  intro i
  induction i with
  | zero => exact rof.rf
  | succ i ih =>
    obtain ⟨D, h4, hd⟩ := alR_13 R e hD i
    have hdp : dp (alR R e i) e = D := by unfold dp; rw [hd]; exact nI_clamp (by omega)
    refine ih.trans ?_
    rw [show alR R e (i + 1) = al1 R (alR R e i) e i from rfl]
    unfold al1
    rw [hdp]
    by_cases h : aaQ (alR R e i) e D (alp R i) (alm R i) i
    · rw [if_pos h]
      have hg := gD_le h4 h.2.2
      exact (aa1_K (alR R e i) e _ _ D hg.2 hg.1).1
    · rw [if_neg h]; exact rof.rf
theorem rof_mk (e : Nat) (T : SR) (k a b : Int32) : rof e T (mkR T k a b) := rof.sm (by simp [mkR, ra, ri]) (by simp [mkR, ra, ri]) (by simp [mkR, ra, ri]) (by simp [mkR, ra, ri]) (fun f k1 k2 => (mk_f T k a b).2.2 f (by omega) (by omega) (by omega))
theorem rof_nm (e : Nat) (T : SR) (p : Int32) : rof e T (nmR T p) := by
  unfold nmR
  by_cases h : p = -1
  · rw [if_pos h]; exact rof_mk e T 1 0 0
  · rw [if_neg h]; exact rof_mk e T 2 p 0
theorem rof_sn (e v : Nat) (s : Int32) (L : List Nat) (X : SR) (hE : X.1 12 = e) : rof e X (snR X e v s L) := by
  have h1 := snR_f e v s L X
  have h2 := (sn_A e v s L X hE).2.2.2.2.2
  refine ⟨?_, ?_, ?_, ?_, fun f k1 k2 => ?_⟩
  · rw [h1.2.1 22 (by decide) (by decide) (by decide) (by decide) (by decide)]; exact og.rf
  · rw [h1.2.1 23 (by decide) (by decide) (by decide) (by decide) (by decide)]; exact og.rf
  · rw [h1.2.1 24 (by decide) (by decide) (by decide) (by decide) (by decide)]; exact og.rf
  · rw [h1.2.1 26 (by decide) (by decide) (by decide) (by decide) (by decide)]; exact og.rf
  · by_cases e9 : f = 20
    · subst e9; exact h2
    · rw [h1.2.1 f (by omega) (by omega) (by omega) (by omega) e9]; exact og.rf
theorem rof_rnL (T : SR) (e a : Nat) (ha : a < 16) (hE : T.1 12 = e) : ∀ h, h ≤ 4 → rof e T (rnL T e a h).1 := by
  intro h
  induction h with
  | zero => exact fun _ => (rof_mk e T 1 0 0).trans (rof_st _ e _ (by omega))
  | succ h ih =>
    intro hh
    refine (ih (by omega)).trans ?_
    have hf := rnL_f T e a h
    obtain ⟨X, eX⟩ : ∃ X, X = (rnL T e a h).1 := ⟨_, rfl⟩
    obtain ⟨p, ep⟩ : ∃ p, p = (rnL T e a h).2 := ⟨_, rfl⟩
    rw [show (rnL T e a (h + 1)).1 = (rn1 (rnL T e a h).1 e a h (rnL T e a h).2).1 from rfl, ← eX, ← ep]
    rw [← eX] at hf
    have xE : X.1 12 = e := (hf.1 12 (by decide) (by decide)).trans hE
    have hv := pn_31 a ha (h + 1) hh
    unfold rn1
    by_cases hr : rnV X e a h = []
    · rw [if_pos hr]; exact rof_bl X e hv
    · rw [if_neg hr]
      have nmf := nm_f X p
      have h1 : rof e X (pcR (nmR X p) e (pn a (h + 1)) (nI (X.1 1))) := by
        refine (rof_nm e X p).trans (rof.trans ?_ (rof_1 e (ra (nmR X p) 25 (upd ((nmR X p).2 25) (31 * e + pn a (h + 1)) (nI (X.1 1)))) ((nmR X p).2 16 e ||| bitN (pn a (h + 1))) (f := 16) (by decide) (by decide)))
        exact rof.sm rfl rfl rfl rfl (fun f k1 k2 => by simp [ra, show f ≠ 25 by omega])
      exact ((h1.trans (rof_sn e (pn a (h + 1)) (nI (X.1 1)) (rnV X e a h) _ (by rw [show (pcR (nmR X p) e (pn a (h + 1)) (nI (X.1 1))).1 = (nmR X p).1 from rfl, nmf.1 12 (by decide)]; exact xE))).trans (rof_mk e _ 3 _ 0)).trans (rof_st _ e _ hv)
theorem rof_wc (T : SR) (e D : Nat) (j : Int32) (hE : T.1 12 = e) (n : Nat) : rof e T (wcR T e D j n) := by
  have h1 := wcR_f T e D j n
  have h2 := (wc_A T e D j hE n).2.2.2.2
  refine ⟨?_, ?_, ?_, ?_, fun f k1 k2 => ?_⟩
  · rw [h1.2.1 22 (by decide) (by decide) (by decide) (by decide) (by decide)]; exact og.rf
  · rw [h1.2.1 23 (by decide) (by decide) (by decide) (by decide) (by decide)]; exact og.rf
  · rw [h1.2.1 24 (by decide) (by decide) (by decide) (by decide) (by decide)]; exact og.rf
  · rw [h1.2.1 26 (by decide) (by decide) (by decide) (by decide) (by decide)]; exact og.rf
  · by_cases e9 : f = 20
    · subst e9; exact h2
    · rw [h1.2.1 f (by omega) (by omega) (by omega) (by omega) e9]; exact og.rf
theorem rof_ch8 (T : SR) (e : Nat) (c : Int32) : rof e T (ch8 T e c) := by
  have h1 := ch8_f T e c
  refine ⟨?_, ?_, ?_, ?_, fun f k1 k2 => ?_⟩
  · rw [h1.2.1 22 (by decide) (by decide) (by decide) (by decide)]; exact og.rf
  · rw [h1.2.1 23 (by decide) (by decide) (by decide) (by decide)]; exact og.rf
  · rw [h1.2.1 24 (by decide) (by decide) (by decide) (by decide)]; exact og.rf
  · rw [h1.2.1 26 (by decide) (by decide) (by decide) (by decide)]; exact og.rf
  · by_cases e9 : f = 14
    · subst e9; unfold ch8; rw [ra_at]; exact og.rf.u1
    · rw [h1.2.1 f (by omega) (by omega) (by omega) e9]; exact og.rf
