/-! fields behind a commit -/
theorem ch5_15 (R : SR) (e a D0 : Nat) (h4 : D0 ≤ 4) : (ch5 R e a D0).2 15 = upd (R.2 15) e (nI a) := by
  have h5 := (alR_f (ch4 R e a D0) e (R.1 42)).2 15 (by decide) (by decide) (by decide) (by decide) (by decide) (by decide) (by decide) (by decide)
  have h4' := (udR_f (ch3 R e a D0) e (dp (ch3 R e a D0) e) ((ch3 R e a D0).2 18 e) 16).2 15 (by decide) (by decide) (by decide)
  have h3 := (skR_f e D0 (rdR (ch2 R e a D0) e D0 ((ch2 R e a D0).2 17 e) 16)).2.1 15 (by decide) (by decide) (by decide)
  have h2 := (rdR_f (ch2 R e a D0) e D0 ((ch2 R e a D0).2 17 e) 16).2 15 (by decide) (by decide) (by decide)
  show (alR (ch4 R e a D0) e (R.1 42)).2 15 = _
  rw [h5]
  show (udR (ch3 R e a D0) e (dp (ch3 R e a D0) e) ((ch3 R e a D0).2 18 e) 16).2 15 = _
  rw [h4']
  show (skR e D0 (rdR (ch2 R e a D0) e D0 ((ch2 R e a D0).2 17 e) 16)).2 15 = _
  rw [h3, h2]
  rfl
theorem t9_f (R : SR) (e a D0 D : Nat) (x : Int32) (n : Nat) (F O : Nat → Int32) (h4 : D0 ≤ 4) (hD4 : D ≤ 4) (ha : a < 16) (hE : R.1 12 = e) (hdp : dp (ch5 R e a D0) e = D) (hr5 : rof e R (ch5 R e a D0)) :
    rof e R (ch9 (rs (ch7 R e a D0 x).1 n F O) e D (ch7 R e a D0 x).2) ∧ (∀ f, f ≠ 1 → f ≠ 7 → f ≠ 48 → (ch9 (rs (ch7 R e a D0 x).1 n F O) e D (ch7 R e a D0 x).2).1 f = R.1 f) ∧ (∀ f, f ≠ 2 → f ≠ 3 → f ≠ 4 → f ≠ 8 → f ≠ 9 → f ≠ 10 → f ≠ 11 → f ≠ 14 → f ≠ 16 → f ≠ 20 → f ≠ 21 → f ≠ 22 → f ≠ 23 → f ≠ 24 → f ≠ 25 → f ≠ 49 → f ≠ 50 → (ch9 (rs (ch7 R e a D0 x).1 n F O) e D (ch7 R e a D0 x).2).2 f = (ch5 R e a D0).2 f) ∧ (rs (ch7 R e a D0 x).1 n F O).2 21 e = (ch9 (rs (ch7 R e a D0 x).1 n F O) e D (ch7 R e a D0 x).2).2 21 e := by
  have f6 := ch6_f R e a D0 x h4
  have f7 := ch7_f R e a D0 x h4
  obtain ⟨c, ec⟩ : ∃ c, c = (ch7 R e a D0 x).2 := ⟨_, rfl⟩
  obtain ⟨T7, eT7⟩ : ∃ T7, T7 = (ch7 R e a D0 x).1 := ⟨_, rfl⟩
  have hr6 : rof e (ch5 R e a D0) (ch6 R e a D0 x) := rof_1 e (ch5 R e a D0) _ (f := 21) (by decide) (by decide)
  have hr7 : rof e (ch6 R e a D0 x) T7 := by
    rw [eT7]; unfold ch7
    by_cases hc : chp (ch5 R e a D0) e x
    · rw [if_pos hc, hdp]
      exact (rof_rnL (ch6 R e a D0 x) e a ha (by rw [f6.1]; exact hE) D hD4).trans (rof_nm e _ _)
    · rw [if_neg hc]; exact rof.rf
  rw [← eT7] at f7
  rw [← ec, ← eT7]
  have hrX : rof e T7 (rs T7 n F O) := rof.sm rfl rfl rfl rfl (fun f k1 k2 => rs_f T7 n F O (by omega) (by omega))
  have c8 := ch8_f (rs T7 n F O) e c
  have c9 := ch9_f (rs T7 n F O) e D c
  have hr9 : rof e (ch8 (rs T7 n F O) e c) (ch9 (rs T7 n F O) e D c) := rof_wc _ e D _ (by rw [c8.1 12 (by decide)]; show T7.1 12 = e; rw [f7.1 12 (by decide) (by decide)]; exact hE) _
  refine ⟨((((hr5.trans hr6).trans hr7).trans hrX).trans (rof_ch8 _ e c)).trans hr9, fun f k1 k2 k3 => ?_, fun f k1 k2 k3 k4 k5 k6 k7 k8 k9 k10 k11 k12 k13 k14 k15 k16 k17 => ?_, ?_⟩
  · rw [c9.1 f k1 k2, show (rs T7 n F O).1 f = T7.1 f by simp [rs, ri, ra, k3]]; exact f7.1 f k1 k2
  · rw [c9.2 f k1 k2 k3 k4 k5 k6 k7 k8 k10, rs_f T7 n F O k16 k17, f7.2 f k1 k2 k3 k4 k5 k6 k7 k9 k10 k15 k12 k13 k14]
    simp [ch6, ra, k11]
  · rw [c9.2 21 (by decide) (by decide) (by decide) (by decide) (by decide) (by decide) (by decide) (by decide) (by decide)]
theorem r7_f (X : SR) (m e a D : Nat) (c : Int32) : (∀ f, f ≠ 12 → f ≠ 42 → (chE X m e a D c).1 f = (ch9 X e D c).1 f) ∧ (chE X m e a D c).1 12 = e + 1 ∧ (chE X m e a D c).1 42 = 0 ∧ ∀ f, f ≠ 27 → f ≠ 28 → f ≠ 29 → f ≠ 31 → f ≠ 32 → f ≠ 33 → (chE X m e a D c).2 f = (ch9 X e D c).2 f := by
  have h1 := adR_f (lvL (ri (ch9 X e D c) 12 (e + 1)) e 16) m e a D (X.2 21 e)
  have h2 := lvL_f (ri (ch9 X e D c) 12 (e + 1)) e 16
  refine ⟨fun f k1 k2 => ?_, chE_12 X m e a D c, by simp [chE, ri], fun f k1 k2 k3 k4 k5 k6 => ?_⟩
  · show (ri (adR (lvL (ri (ch9 X e D c) 12 (e + 1)) e 16) m e a D (X.2 21 e)) 42 0).1 f = _
    rw [show (ri (adR (lvL (ri (ch9 X e D c) 12 (e + 1)) e 16) m e a D (X.2 21 e)) 42 0).1 f = (adR (lvL (ri (ch9 X e D c) 12 (e + 1)) e 16) m e a D (X.2 21 e)).1 f by simp [ri, k2], h1.1, h2.1]
    simp [ri, k1]
  · show (adR (lvL (ri (ch9 X e D c) 12 (e + 1)) e 16) m e a D (X.2 21 e)).2 f = _
    rw [h1.2 f k1 k3 k4 k6, h2.2.1 f k1 k2 k3 k4 k5 k6]; rfl
theorem s7_f (S : SC) (m : Nat) (x : Int32) : (∀ b, b ≠ 2 → (cm7 S m x).1 0 b = (cm5 S m x).1 0 b) ∧ (cm7 S m x).1 0 2 = 0 ∧ (cm7 S m x).1 2 = (cm5 S m x).1 2 ∧ (∀ c, 4 ≤ c → c ≠ 21 → (cm7 S m x).2.1 c = (cm5 S m x).2.1 c) ∧ (∀ c, 1 ≤ c → (cm7 S m x).2.2 c = (cm5 S m x).2.2 c) ∧ (cm7 S m x).2.1 21 = spr (sN (cm5 S m x)) ((cm5 S m x).2.1 22) ((cm5 S m x).2.1 23) ((cm5 S m x).2.1 24) (sR (cm5 S m x) - sR S) (sR S) ((cm5 S m x).2.1 21) ∧ (∀ q, mv (cm7 S m x) q = mv (cm6 S m x) q) := by
  have e6 : cm6 S m x = mvS (cm5 S m x) m (sE S) (S.2.1 1 m).toNatClampNeg := rfl
  refine ⟨fun b hb => ?_, ?_, ?_, fun c k1 k2 => ?_, fun c k1 => ?_, ?_, fun q => ?_⟩
  · simp [cm7, spV, sv1, stN, e6, mvS, mbS, st1, st2, hb]
  · simp [cm7, spV, sv1, stN]
  · funext f; simp [cm7, spV, sv1, stN, e6, mvS, mbS, st1, st2]
  · funext i
    simp [cm7, spV, sv1, stN, e6, mvS, mbS, st1, st2, k2, show c ≠ 0 by omega, show c ≠ 1 by omega, show c ≠ 2 by omega, show c ≠ 3 by omega]
  · funext i
    simp [cm7, spV, sv1, stN, e6, mvS, mbS, st1, st2, show c ≠ 0 by omega]
  · simp [cm7, spV, sv1, stN, e6, mvS, mbS, st1, st2, sN, sR]
  · simp [mv, cm7, spV, sv1, stN]
theorem out_fr (S : SC) : (frS S).2.1 21 = S.2.1 21 := rfl
theorem out_tie (S : SC) (a b c : Int32) : (tieS S a b c).2.1 21 = S.2.1 21 := by funext i; simp [tieS, stN, sv1]
theorem out_dr (S : SC) (a b : Int32) : (dr2S S a b).2.1 21 = S.2.1 21 := (out_tie _ _ _ _).trans (out_fr S)
theorem out_enc (S : SC) (e : Nat) (a c : Int32) : (encS S e a c).2.1 21 = S.2.1 21 := by funext i; simp [encS, st1, tieS, stN, sv1]
theorem out_snd (S : SC) (e : Nat) (mask s : Int32) : ∀ n, (sndS S e mask s n).2.1 21 = S.2.1 21 := by
  intro n
  induction n with
  | zero => rfl
  | succ n ih =>
    rw [show sndS S e mask s (n + 1) = if mask &&& bitN n = 0 then sndS S e mask s n else encS (sndS S e mask s n) e (tk (S.1 2 e) (S.2.2 2 e) n) s from rfl]
    by_cases h : mask &&& bitN n = 0
    · rw [if_pos h]; exact ih
    · rw [if_neg h, out_enc]; exact ih
theorem out_pk (S : SC) (e : Nat) (sel : Nat → Bool) (s : Int32) : ∀ n, (pkS S e sel s n).2.1 21 = S.2.1 21 := by
  intro n
  induction n with
  | zero => rfl
  | succ n ih =>
    rw [show pkS S e sel s (n + 1) = if S.2.1 14 n = nI e ∧ sel n = true then encS (pkS S e sel s n) e (S.2.1 12 n) s else pkS S e sel s n from rfl]
    by_cases h : S.2.1 14 n = nI e ∧ sel n = true
    · rw [if_pos h, out_enc]; exact ih
    · rw [if_neg h]; exact ih
theorem out_nx (S : SC) (p : Int32) : (nxS S p).2.1 21 = S.2.1 21 := by
  unfold nxS
  by_cases h : p = -1
  · rw [if_pos h]; rfl
  · rw [if_neg h]; exact out_dr S p (-1)
theorem out_mpL (S : SC) (e a : Nat) : ∀ h, (mpL S e a h).1.2.1 21 = S.2.1 21 := by
  intro h
  induction h with
  | zero => rfl
  | succ h ih =>
    rw [← ih]
    obtain ⟨X, eX⟩ : ∃ X, X = (mpL S e a h).1 := ⟨_, rfl⟩
    obtain ⟨p, ep⟩ : ∃ p, p = (mpL S e a h).2 := ⟨_, rfl⟩
    rw [show (mpL S e a (h + 1)).1 = (mpT (mpL S e a h).1 e a h (mpL S e a h).2).1 from rfl, ← eX, ← ep]
    unfold mpT
    by_cases hr : res (X.1 2 e) (X.2.2 2 e) (X.2.2 4 e) h (sdn a h) = 0
    · rw [if_pos hr]; rfl
    · rw [if_neg hr]
      have : ∀ (Z : SC) (q : Int32), (mpN Z e a h q).1.2.1 21 = Z.2.1 21 := fun Z q => by
        have h1 : ∀ (W : SC) (v : Nat) (k b : Int32) (y : Int32), (st1 (gvS W e v k b) 6 e y).2.1 21 = W.2.1 21 := fun W v k b y => by funext i; simp [st1, gvS, trS, st2]
        unfold mpN
        dsimp only
        rw [h1, out_dr, out_pk, out_snd]
      rw [this, out_nx]
theorem out_mpS (S : SC) (e a D : Nat) : (mpS S e a D).1.2.1 21 = S.2.1 21 := (out_nx _ _).trans (out_mpL S e a D)
theorem out_op3 (S : SC) (e : Nat) (c : Int32) : (op3 S e c).2.1 21 = S.2.1 21 := by
  unfold op3 op2 op1; rw [out_dr, out_pk, out_dr, out_dr]
theorem s5_f (S : SC) (m : Nat) (x : Int32) : (cm5 S m x).1 0 0 = sE S + 1 ∧ (cm5 S m x).1 0 1 = sP S ∧ (cm5 S m x).1 0 2 = sQ S ∧ (∀ c, c ≠ 5 → c ≠ 6 → c ≠ 10 → c < 21 → (cm5 S m x).2.1 c = (cm3 S m).2.1 c) ∧ (∀ q, mv (cm5 S m x) q = mv (cm3 S m) q) ∧ (cm5 S m x).2.1 21 = S.2.1 21 := by
  have f3 := cm3_f S m
  have t4 : tq (cm3 S m) (cm4 S m x).1 ∧ (cm4 S m x).1.2.1 21 = (cm3 S m).2.1 21 := by
    unfold cm4
    by_cases hc : cmp (cm3 S m) (sE S) x
    · rw [if_pos hc]
      refine ⟨(tq_mpL _ _ _ _).trans (tq_nx _ _), ?_⟩
      exact out_mpS _ _ _ _
    · rw [if_neg hc]; exact ⟨tq.rf, rfl⟩
  obtain ⟨S4, e4⟩ : ∃ S4, S4 = (cm4 S m x).1 := ⟨_, rfl⟩
  obtain ⟨c4, ec⟩ : ∃ c4, c4 = (cm4 S m x).2 := ⟨_, rfl⟩
  rw [← e4] at t4
  have e5 : cm5 S m x = opS S4 (sE S) c4 := by rw [e4, ec]; rfl
  have t5 := tq_op3 S4 (sE S) c4
  have sq5 : sq S4 (op3 S4 (sE S) c4) := by
    unfold op3 op2 op1
    exact (((sq_dr2 _ _ _).trans (sq_dr2 _ _ _)).trans (sq_pk _ _ _ _ _)).trans (sq_dr2 _ _ _)
  rw [e5]
  refine ⟨by simp [opS, stN], ?_, ?_, fun c k1 k2 k3 k4 => ?_, fun q => ?_, ?_⟩
  · rw [show (opS S4 (sE S) c4).1 0 1 = (op3 S4 (sE S) c4).1 0 1 by simp [opS, stN, st1], t5.2.2.1 1 (by decide) (by decide), t4.1.2.2.1 1 (by decide) (by decide), f3.1]
  · rw [show (opS S4 (sE S) c4).1 0 2 = (op3 S4 (sE S) c4).1 0 2 by simp [opS, stN, st1], t5.2.2.1 2 (by decide) (by decide), t4.1.2.2.1 2 (by decide) (by decide), f3.1]
  · rw [show (opS S4 (sE S) c4).2.1 c = (op3 S4 (sE S) c4).2.1 c by funext i; simp [opS, stN, st1, k1], t5.2.2.2.1 c k3 k2 k4, t4.1.2.2.2.1 c k3 k2 k4]
  · have h0 : ∀ c, c < 4 → (opS S4 (sE S) c4).2.1 c = (cm3 S m).2.1 c := fun c hc => by
      rw [show (opS S4 (sE S) c4).2.1 c = (op3 S4 (sE S) c4).2.1 c by funext i; simp [opS, stN, st1, show c ≠ 5 by omega], t5.2.2.2.1 c (by omega) (by omega) (by omega), t4.1.2.2.2.1 c (by omega) (by omega) (by omega)]
    have h1 : (opS S4 (sE S) c4).1 1 = (cm3 S m).1 1 := by
      rw [show (opS S4 (sE S) c4).1 1 = (op3 S4 (sE S) c4).1 1 by funext i; simp [opS, stN, st1], t5.1, t4.1.1]
    have h2 : ∀ c, c < 2 → (opS S4 (sE S) c4).2.2 c = (cm3 S m).2.2 c := fun c hc => by
      rw [show (opS S4 (sE S) c4).2.2 c = (op3 S4 (sE S) c4).2.2 c from rfl, t5.2.2.2.2.1 c hc, t4.1.2.2.2.2.1 c hc]
    simp only [mv]
    rw [h0 0 (by decide), h0 1 (by decide), h0 2 (by decide), h0 3 (by decide), h1, h2 0 (by decide), h2 1 (by decide)]
  · rw [show (opS S4 (sE S) c4).2.1 21 = (op3 S4 (sE S) c4).2.1 21 by funext i; simp [opS, stN, st1], out_op3, t4.2]
    exact f3.2.1 21 (by decide) (by decide) (by decide) (by decide)
