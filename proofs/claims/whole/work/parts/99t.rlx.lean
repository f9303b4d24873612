/-! rules are only added -/
def rlx (S T : SC) : Prop := sR S ≤ sR T ∧ ∀ j, j < sR S → T.2.1 22 j = S.2.1 22 j ∧ T.2.1 23 j = S.2.1 23 j ∧ T.2.1 24 j = S.2.1 24 j
theorem rlx.rf {S : SC} : rlx S S := ⟨Nat.le_refl _, fun _ _ => ⟨rfl, rfl, rfl⟩⟩
theorem rlx.trans {S T U : SC} (h : rlx S T) (h1 : rlx T U) : rlx S U := ⟨Nat.le_trans h.1 h1.1, fun j hj => by
  have a := h.2 j hj
  have b := h1.2 j (Nat.lt_of_lt_of_le hj h.1)
  exact ⟨b.1.trans a.1, b.2.1.trans a.2.1, b.2.2.trans a.2.2⟩⟩
theorem rlx.sm {S T : SC} (h0 : sR T = sR S) (h2 : T.2.1 22 = S.2.1 22) (h3 : T.2.1 23 = S.2.1 23) (h4 : T.2.1 24 = S.2.1 24) : rlx S T := ⟨by rw [h0]; exact Nat.le_refl _, fun j _ => by rw [h2, h3, h4]; exact ⟨rfl, rfl, rfl⟩⟩
theorem rlx_tie (S : SC) (a b c : Int32) : rlx S (tieS S a b c) := by
  have e0 : sR (tieS S a b c) = sR S + 1 := by simp [sR, tieS, stN, sv1]
  refine ⟨by omega, fun j hj => ?_⟩
  have hne : j ≠ sR S := by omega
  refine ⟨by simp [tieS, stN, sv1, upd, hne], by simp [tieS, stN, sv1, upd, hne], by simp [tieS, stN, sv1, upd, hne]⟩
theorem rlx_fr (S : SC) : rlx S (frS S) := rlx.sm (by simp [sR, frS, stN]) rfl rfl rfl
theorem rlx_dr (S : SC) (a b : Int32) : rlx S (dr2S S a b) := (rlx_fr S).trans (rlx_tie _ _ _ _)
theorem rlx_enc (S : SC) (e : Nat) (a c : Int32) : rlx S (encS S e a c) := (rlx_tie S a (-1) c).trans (rlx.sm rfl (by funext i; simp [encS, st1]) (by funext i; simp [encS, st1]) (by funext i; simp [encS, st1]))
theorem rlx_snd (S : SC) (e : Nat) (mask s : Int32) : ∀ n, rlx S (sndS S e mask s n) := by
  intro n
  induction n with
  | zero => exact rlx.rf
  | succ n ih =>
    rw [show sndS S e mask s (n + 1) = if mask &&& bitN n = 0 then sndS S e mask s n else encS (sndS S e mask s n) e (tk (S.1 2 e) (S.2.2 2 e) n) s from rfl]
    by_cases h : mask &&& bitN n = 0
    · rw [if_pos h]; exact ih
    · rw [if_neg h]; exact ih.trans (rlx_enc _ _ _ _)
theorem rlx_pk (S : SC) (e : Nat) (sel : Nat → Bool) (s : Int32) : ∀ n, rlx S (pkS S e sel s n) := by
  intro n
  induction n with
  | zero => exact rlx.rf
  | succ n ih =>
    rw [show pkS S e sel s (n + 1) = if S.2.1 14 n = nI e ∧ sel n = true then encS (pkS S e sel s n) e (S.2.1 12 n) s else pkS S e sel s n from rfl]
    by_cases h : S.2.1 14 n = nI e ∧ sel n = true
    · rw [if_pos h]; exact ih.trans (rlx_enc _ _ _ _)
    · rw [if_neg h]; exact ih
theorem rlx_nx (S : SC) (p : Int32) : rlx S (nxS S p) := by
  unfold nxS
  by_cases h : p = -1
  · rw [if_pos h]; exact rlx_fr S
  · rw [if_neg h]; exact rlx_dr S p (-1)
theorem rlx_mpL (S : SC) (e a : Nat) : ∀ h, rlx S (mpL S e a h).1 := by
  intro h
  induction h with
  | zero => exact (rlx_fr S).trans (rlx.sm rfl rfl rfl rfl)
  | succ h ih =>
    refine ih.trans ?_
    obtain ⟨X, eX⟩ : ∃ X, X = (mpL S e a h).1 := ⟨_, rfl⟩
    obtain ⟨p, ep⟩ : ∃ p, p = (mpL S e a h).2 := ⟨_, rfl⟩
    rw [show (mpL S e a (h + 1)).1 = (mpT (mpL S e a h).1 e a h (mpL S e a h).2).1 from rfl, ← eX, ← ep]
    unfold mpT
    by_cases hr : res (X.1 2 e) (X.2.2 2 e) (X.2.2 4 e) h (sdn a h) = 0
    · rw [if_pos hr]; exact rlx.sm rfl rfl rfl rfl
    · rw [if_neg hr]
      exact ((((rlx_nx X p).trans (rlx_snd _ e _ _ 31)).trans (rlx_pk _ e _ _ _)).trans (rlx_dr _ _ _)).trans (rlx.sm rfl rfl rfl rfl)
theorem rlx_cm5 (S : SC) (m : Nat) (x : Int32) : rlx S (cm5 S m x) := by
  have f3 := cm3_f S m
  have h3 : rlx S (cm3 S m) := rlx.sm (by unfold sR; rw [f3.1]) (f3.2.1 22 (by decide) (by decide) (by decide) (by decide)) (f3.2.1 23 (by decide) (by decide) (by decide) (by decide)) (f3.2.1 24 (by decide) (by decide) (by decide) (by decide))
  have h4 : rlx (cm3 S m) (cm4 S m x).1 := by
    unfold cm4
    by_cases hc : cmp (cm3 S m) (sE S) x
    · rw [if_pos hc]; exact (rlx_mpL _ _ _ _).trans (rlx_nx _ _)
    · rw [if_neg hc]; exact rlx.rf
  obtain ⟨S4, e4⟩ : ∃ S4, S4 = (cm4 S m x).1 := ⟨_, rfl⟩
  obtain ⟨c4, ec⟩ : ∃ c4, c4 = (cm4 S m x).2 := ⟨_, rfl⟩
  rw [← e4] at h4
  have e5 : cm5 S m x = opS S4 (sE S) c4 := by rw [e4, ec]; rfl
  rw [e5]
  refine (h3.trans h4).trans ?_
  have h5 : rlx S4 (op3 S4 (sE S) c4) := by
    unfold op3 op2 op1
    exact (((rlx_dr _ _ _).trans (rlx_dr _ _ _)).trans (rlx_pk _ _ _ _ _)).trans (rlx_dr _ _ _)
  exact h5.trans (rlx.sm (by simp [opS, sR, stN, st1]) rfl rfl rfl)
theorem PI_c {S3 : SC} {T6 T9 R : SR} {e a D N0 : Nat} (h : PI S3 T6 e a D N0 T9) (h1 : R.1 1 = T9.1 1) (h7 : R.1 7 = T9.1 7) (hf : ∀ f, 8 ≤ f → f ≤ 23 → R.2 f = T9.2 f) : PI S3 T6 e a D N0 R := by
  have hr : ∀ v, rK R e v = rK T9 e v ∧ rU R e v = rU T9 e v := fun v => by simp only [rK, rU]; rw [hf 22 (by decide) (by decide), hf 23 (by decide) (by decide)]; exact ⟨rfl, rfl⟩
  rcases h with ⟨a1, X, Y, p, a2, a3, a4, a5, a6⟩ | ⟨a1, a2, a3⟩
  · refine Or.inl ⟨by rw [hf 21 (by decide) (by decide)]; exact a1, X, Y, p, a2, fun v => by rw [(hr v).1, (hr v).2]; exact a3 v, by rw [hf 16 (by decide) (by decide)]; exact a4, a5.trans (enx.sm h7 (fun f k1 k2 => hf f k1 (by omega))), by rw [h1]; exact a6⟩
  · exact Or.inr ⟨by rw [hf 21 (by decide) (by decide)]; exact a1, by rw [hf 16 (by decide) (by decide)]; exact a2, fun v => by rw [(hr v).1, (hr v).2]; exact a3 v⟩
/-- a member as the reference has it, behind the leaving of all that were removed -/
theorem lvL_m (X : SR) (e : Nat) : ∀ i q, q < i → (lvQ X e q → (lvL X e i).2 27 q = -1 ∧ (lvL X e i).2 28 q = -1 ∧ (lvL X e i).2 29 q = -1 ∧ (lvL X e i).2 31 q = 0 ∧ (lvL X e i).2 32 q = 0 ∧ ∀ v, v < 31 → (lvL X e i).2 33 (31 * q + v) = -1) ∧ (¬ lvQ X e q → (lvL X e i).2 27 q = X.2 27 q ∧ (lvL X e i).2 28 q = X.2 28 q ∧ (lvL X e i).2 29 q = X.2 29 q ∧ (lvL X e i).2 31 q = X.2 31 q ∧ (lvL X e i).2 32 q = X.2 32 q ∧ ∀ v, v < 31 → (lvL X e i).2 33 (31 * q + v) = X.2 33 (31 * q + v)) := by
  have one : ∀ (T : SR) (i : Nat), (lvR T i).2 27 i = -1 ∧ (lvR T i).2 28 i = -1 ∧ (lvR T i).2 29 i = -1 ∧ (lvR T i).2 31 i = 0 ∧ (lvR T i).2 32 i = 0 ∧ (∀ v, v < 31 → (lvR T i).2 33 (31 * i + v) = -1) := fun T i => by
    refine ⟨by simp [lvR, lvR0, ra, upd], by simp [lvR, lvR0, ra, upd], by simp [lvR, lvR0, ra, upd], by simp [lvR, lvR0, ra, upd], by simp [lvR, lvR0, ra, upd], fun v hv => ?_⟩
    unfold lvR; rw [ra_at]; simp only [nkF]; rw [if_pos (by omega)]
  have oth : ∀ (T : SR) (i q : Nat), q ≠ i → (lvR T i).2 27 q = T.2 27 q ∧ (lvR T i).2 28 q = T.2 28 q ∧ (lvR T i).2 29 q = T.2 29 q ∧ (lvR T i).2 31 q = T.2 31 q ∧ (lvR T i).2 32 q = T.2 32 q ∧ (∀ v, v < 31 → (lvR T i).2 33 (31 * q + v) = T.2 33 (31 * q + v)) := fun T i q hq => by
    refine ⟨by simp [lvR, lvR0, ra, upd, hq], by simp [lvR, lvR0, ra, upd, hq], by simp [lvR, lvR0, ra, upd, hq], by simp [lvR, lvR0, ra, upd, hq], by simp [lvR, lvR0, ra, upd, hq], fun v hv => ?_⟩
    unfold lvR; rw [ra_at]; simp only [nkF]; rw [if_neg (by omega)]
  -- a state that has not come to q
  have pre : ∀ i q, i ≤ q → (lvL X e i).2 27 q = X.2 27 q ∧ (lvL X e i).2 28 q = X.2 28 q ∧ (lvL X e i).2 29 q = X.2 29 q ∧ (lvL X e i).2 31 q = X.2 31 q ∧ (lvL X e i).2 32 q = X.2 32 q ∧ ∀ v, v < 31 → (lvL X e i).2 33 (31 * q + v) = X.2 33 (31 * q + v) := by
    intro i
    induction i with
    | zero => exact fun q _ => ⟨rfl, rfl, rfl, rfl, rfl, fun _ _ => rfl⟩
    | succ i ih =>
      intro q hq
      have h1 := ih q (by omega)
      rw [show lvL X e (i + 1) = if lvQ X e i then lvR (lvL X e i) i else lvL X e i from rfl]
      by_cases w : lvQ X e i
      · rw [if_pos w]
        have h2 := oth (lvL X e i) i q (by omega)
        exact ⟨h2.1.trans h1.1, h2.2.1.trans h1.2.1, h2.2.2.1.trans h1.2.2.1, h2.2.2.2.1.trans h1.2.2.2.1, h2.2.2.2.2.1.trans h1.2.2.2.2.1, fun v hv => (h2.2.2.2.2.2 v hv).trans (h1.2.2.2.2.2 v hv)⟩
      · rw [if_neg w]; exact h1
  intro i
  induction i with
  | zero => exact fun q hq => absurd hq (Nat.not_lt_zero q)
  | succ i ih =>
    intro q hq
    rw [show lvL X e (i + 1) = if lvQ X e i then lvR (lvL X e i) i else lvL X e i from rfl]
    by_cases z : q = i
    · subst z
      by_cases w : lvQ X e q
      · rw [if_pos w]; exact ⟨fun _ => one _ q, fun n => absurd w n⟩
      · rw [if_neg w]; exact ⟨fun n => absurd n w, fun _ => pre q q (Nat.le_refl _)⟩
    · have h1 := ih q (by omega)
      by_cases w : lvQ X e i
      · rw [if_pos w]
        have h2 := oth (lvL X e i) i q z
        rw [h2.1, h2.2.1, h2.2.2.1, h2.2.2.2.1, h2.2.2.2.2.1]
        exact ⟨fun n => ⟨(h1.1 n).1, (h1.1 n).2.1, (h1.1 n).2.2.1, (h1.1 n).2.2.2.1, (h1.1 n).2.2.2.2.1, fun v hv => (h2.2.2.2.2.2 v hv).trans ((h1.1 n).2.2.2.2.2 v hv)⟩, fun n => ⟨(h1.2 n).1, (h1.2 n).2.1, (h1.2 n).2.2.1, (h1.2 n).2.2.2.1, (h1.2 n).2.2.2.2.1, fun v hv => (h2.2.2.2.2.2 v hv).trans ((h1.2 n).2.2.2.2.2 v hv)⟩⟩
      · rw [if_neg w]; exact h1
