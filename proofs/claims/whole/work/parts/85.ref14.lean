/-! renew -/
theorem rs_ra (T : SR) (n : Nat) (F O : Nat → Int32) {f : Nat} (G : Nat → Int32) (h1 : f ≠ 49) (h2 : f ≠ 50) : ra (rs T n F O) f G = rs (ra T f G) n F O := by
  refine sr_ext (fun q => rfl) (fun q => ?_)
  simp only [rs, ra, ri]
  by_cases h : q = f
  · subst h; simp [h1, h2]
  · simp [h]
theorem rs_ri (T : SR) (n : Nat) (F O : Nat → Int32) {f : Nat} (v : Nat) (h1 : f ≠ 48) : ri (rs T n F O) f v = rs (ri T f v) n F O := by
  refine sr_ext (fun q => ?_) (fun q => rfl)
  simp only [rs, ra, ri]
  by_cases h : q = f
  · subst h; simp [h1]
  · simp [h]
theorem rs_rs (T : SR) (n n1 : Nat) (F O F1 O1 : Nat → Int32) : rs (rs T n F O) n1 F1 O1 = rs T n1 F1 O1 := by
  rw [show rs (rs T n F O) n1 F1 O1 = ri (ra (ra (rs T n F O) 49 F1) 50 O1) 48 n1 from rfl, rs_49, rs_50, rs_48]
theorem mkR_rs (T : SR) (n : Nat) (F O : Nat → Int32) (k a b : Int32) : mkR (rs T n F O) k a b = rs (mkR T k a b) n F O := by
  show ri (ra (ra (ra (rs T n F O) 2 (upd (T.2 2) (T.1 1) k)) 3 (upd (T.2 3) (T.1 1) a)) 4 (upd (T.2 4) (T.1 1) b)) 1 (T.1 1 + 1) = _
  rw [rs_ra _ _ _ _ _ (by decide) (by decide), rs_ra _ _ _ _ _ (by decide) (by decide), rs_ra _ _ _ _ _ (by decide) (by decide), rs_ri _ _ _ _ _ (by decide)]
  rfl
theorem enR_rs (T : SR) (n : Nat) (F O : Nat → Int32) (k a b : Int32) : enR (rs T n F O) k a b = rs (enR T k a b) n F O := by
  show ra (ri (ra (ra (ra (ra (rs T n F O) 8 (upd (T.2 8) (T.1 7) k)) 9 (upd (T.2 9) (T.1 7) a)) 10 (upd (T.2 10) (T.1 7) (nI (T.1 12)))) 11 (upd (T.2 11) (T.1 7) b)) 7 (T.1 7 + 1)) 20 (upd (T.2 20) (T.1 12) (T.2 20 (T.1 12) + 1)) = _
  rw [rs_ra _ _ _ _ _ (by decide) (by decide), rs_ra _ _ _ _ _ (by decide) (by decide), rs_ra _ _ _ _ _ (by decide) (by decide), rs_ra _ _ _ _ _ (by decide) (by decide), rs_ri _ _ _ _ _ (by decide), rs_ra _ _ _ _ _ (by decide) (by decide)]
  rfl
theorem blR_rs (T : SR) (n : Nat) (F O : Nat → Int32) (e v : Nat) : blR (rs T n F O) e v = rs (blR T e v) n F O := by
  show ra (ra (rs T n F O) 22 (upd (T.2 22) (31 * e + v) (-1))) 23 (upd (T.2 23) (31 * e + v) 0) = _
  rw [rs_ra _ _ _ _ _ (by decide) (by decide), rs_ra _ _ _ _ _ (by decide) (by decide)]
  rfl
theorem stR_rs (T : SR) (n : Nat) (F O : Nat → Int32) (e v : Nat) (k : Int32) : stR (rs T n F O) e v k = rs (stR T e v k) n F O := by
  show ra (ra (ra (rs T n F O) 22 (upd (T.2 22) (31 * e + v) k)) 23 (upd (T.2 23) (31 * e + v) 0)) 24 (upd (T.2 24) (31 * e + v) (nI e)) = _
  rw [rs_ra _ _ _ _ _ (by decide) (by decide), rs_ra _ _ _ _ _ (by decide) (by decide), rs_ra _ _ _ _ _ (by decide) (by decide)]
  rfl
def nmR (T : SR) (p : Int32) : SR := if p = -1 then mkR T 1 0 0 else mkR T 2 p 0
theorem nmR_rs (T : SR) (n : Nat) (F O : Nat → Int32) (p : Int32) : nmR (rs T n F O) p = rs (nmR T p) n F O := by
  unfold nmR
  by_cases h : p = -1
  · rw [if_pos h, if_pos h]; exact mkR_rs T n F O 1 0 0
  · rw [if_neg h, if_neg h]; exact mkR_rs T n F O 2 p 0
abbrev rsk (X : SR) (e r : Nat) : Prop := r % 2 = 0 ∧ ¬ X.2 19 e &&& bitN (r / 2) = 0
def sn1 (e v : Nat) (s : Int32) (X : SR) (r : Nat) : SR := if rsk X e r then X else enR X (rK X e r) s (nI v)
def snR (T : SR) (e v : Nat) (s : Int32) (L : List Nat) : SR := L.foldl (sn1 e v s) T
def pcR (T : SR) (e v : Nat) (s : Int32) : SR := ra (ra T 25 (upd (T.2 25) (31 * e + v) s)) 16 (upd (T.2 16) e (T.2 16 e ||| bitN v))
theorem pcR_rs (T : SR) (n : Nat) (F O : Nat → Int32) (e v : Nat) (s : Int32) : pcR (rs T n F O) e v s = rs (pcR T e v s) n F O := by
  show ra (ra (rs T n F O) 25 (upd (T.2 25) (31 * e + v) s)) 16 (upd (T.2 16) e (T.2 16 e ||| bitN v)) = _
  rw [rs_ra _ _ _ _ _ (by decide) (by decide), rs_ra _ _ _ _ _ (by decide) (by decide)]
  rfl
def rnV (T : SR) (e a h : Nat) : List Nat := rsv (fun v => T.2 22 (31 * e + v)) (fun v => T.2 23 (31 * e + v)) h (sdn a h)
def rnB (T : SR) (e v : Nat) (p : Int32) (L : List Nat) : SR := snR (pcR (nmR T p) e v (nI (T.1 1))) e v (nI (T.1 1)) L
def rn1 (T : SR) (e a h : Nat) (p : Int32) : SR × Int32 :=
  if rnV T e a h = [] then (blR T e (pn a (h + 1)), p) else (stR (mkR (rnB T e (pn a (h + 1)) p (rnV T e a h)) 3 (nI (T.1 1)) 0) e (pn a (h + 1)) (nI (T.1 1 + 1)), nI (T.1 1))
def rnL (T : SR) (e a : Nat) : Nat → SR × Int32
  | 0 => (stR (mkR T 1 0 0) e (2 * a) (nI (T.1 1)), -1)
  | h + 1 => rn1 (rnL T e a h).1 e a h (rnL T e a h).2
theorem sn1_f (e v : Nat) (s : Int32) (X : SR) (r : Nat) : (∀ f, f ≠ 7 → (sn1 e v s X r).1 f = X.1 f) ∧ (∀ f, f ≠ 8 → f ≠ 9 → f ≠ 10 → f ≠ 11 → f ≠ 20 → (sn1 e v s X r).2 f = X.2 f) ∧ (sn1 e v s X r).1 7 ≤ X.1 7 + 1 := by
  unfold sn1
  by_cases h : rsk X e r
  · rw [if_pos h]; exact ⟨fun _ _ => rfl, fun _ _ _ _ _ _ => rfl, Nat.le_succ _⟩
  · rw [if_neg h]
    exact ⟨fun f h1 => by simp [enR, ra, ri, h1], fun f h1 h2 h3 h4 h5 => by simp [enR, ra, ri, h1, h2, h3, h4, h5], by simp [enR, ra, ri]⟩
theorem snR_f (e v : Nat) (s : Int32) (L : List Nat) : ∀ X : SR, (∀ f, f ≠ 7 → (snR X e v s L).1 f = X.1 f) ∧ (∀ f, f ≠ 8 → f ≠ 9 → f ≠ 10 → f ≠ 11 → f ≠ 20 → (snR X e v s L).2 f = X.2 f) ∧ (snR X e v s L).1 7 ≤ X.1 7 + L.length := by
  induction L with
  | nil => exact fun X => ⟨fun _ _ => rfl, fun _ _ _ _ _ _ => rfl, Nat.le_refl _⟩
  | cons r L ih =>
    intro X
    have h1 := ih (sn1 e v s X r)
    have h2 := sn1_f e v s X r
    refine ⟨fun f k => (h1.1 f k).trans (h2.1 f k), fun f k1 k2 k3 k4 k5 => (h1.2.1 f k1 k2 k3 k4 k5).trans (h2.2.1 f k1 k2 k3 k4 k5), ?_⟩
    have h3 := h1.2.2
    have h4 := h2.2.2
    rw [List.length_cons]
    show (snR (sn1 e v s X r) e v s L).1 7 ≤ _
    omega
theorem mk_f (T : SR) (k a b : Int32) : (∀ f, f ≠ 1 → (mkR T k a b).1 f = T.1 f) ∧ (mkR T k a b).1 1 = T.1 1 + 1 ∧ ∀ f, f ≠ 2 → f ≠ 3 → f ≠ 4 → (mkR T k a b).2 f = T.2 f :=
  ⟨fun f h => by simp [mkR, ra, ri, h], by simp [mkR, ra, ri], fun f h1 h2 h3 => by simp [mkR, ra, ri, h1, h2, h3]⟩
theorem nm_f (T : SR) (p : Int32) : (∀ f, f ≠ 1 → (nmR T p).1 f = T.1 f) ∧ (nmR T p).1 1 = T.1 1 + 1 ∧ ∀ f, f ≠ 2 → f ≠ 3 → f ≠ 4 → (nmR T p).2 f = T.2 f := by
  unfold nmR
  by_cases h : p = -1
  · rw [if_pos h]; exact mk_f T 1 0 0
  · rw [if_neg h]; exact mk_f T 2 p 0
theorem rnB_f (T : SR) (e v : Nat) (p : Int32) (L : List Nat) : (∀ f, f ≠ 1 → f ≠ 7 → (rnB T e v p L).1 f = T.1 f) ∧ (rnB T e v p L).1 1 = T.1 1 + 1 ∧ (∀ f, f ≠ 2 → f ≠ 3 → f ≠ 4 → f ≠ 8 → f ≠ 9 → f ≠ 10 → f ≠ 11 → f ≠ 16 → f ≠ 20 → f ≠ 25 → (rnB T e v p L).2 f = T.2 f) ∧ (rnB T e v p L).1 7 ≤ T.1 7 + L.length ∧ ∀ f, f = 2 ∨ f = 3 ∨ f = 4 → (rnB T e v p L).2 f = (nmR T p).2 f := by
  have h1 := snR_f e v (nI (T.1 1)) L (pcR (nmR T p) e v (nI (T.1 1)))
  have h2 := nm_f T p
  have h3 : (pcR (nmR T p) e v (nI (T.1 1))).1 = (nmR T p).1 := rfl
  rw [h3] at h1
  refine ⟨fun f k1 k2 => (h1.1 f k2).trans (h2.1 f k1), (h1.1 1 (by decide)).trans h2.2.1, fun f k1 k2 k3 k4 k5 k6 k7 k8 k9 k10 => (h1.2.1 f k4 k5 k6 k7 k9).trans (Eq.trans (by simp [pcR, ra, k8, k10]) (h2.2.2 f k1 k2 k3)), ?_, fun f hf => ?_⟩
  · have h4 := h1.2.2
    rw [h2.1 7 (by decide)] at h4
    exact h4
  · refine (h1.2.1 f (by omega) (by omega) (by omega) (by omega) (by omega)).trans ?_
    simp [pcR, ra, show f ≠ 16 by omega, show f ≠ 25 by omega]
theorem rn1_f (T : SR) (e a h : Nat) (p : Int32) : (∀ f, f ≠ 1 → f ≠ 7 → (rn1 T e a h p).1.1 f = T.1 f) ∧ ∀ f, f ≠ 2 → f ≠ 3 → f ≠ 4 → f ≠ 8 → f ≠ 9 → f ≠ 10 → f ≠ 11 → f ≠ 16 → f ≠ 20 → f ≠ 25 → f ≠ 22 → f ≠ 23 → f ≠ 24 → (rn1 T e a h p).1.2 f = T.2 f := by
  unfold rn1
  by_cases hc : rnV T e a h = []
  · rw [if_pos hc]
    exact ⟨fun _ _ _ => rfl, fun f _ _ _ _ _ _ _ _ _ _ k1 k2 _ => by simp [blR, ra, k1, k2]⟩
  · rw [if_neg hc]
    have h1 := rnB_f T e (pn a (h + 1)) p (rnV T e a h)
    have h2 := mk_f (rnB T e (pn a (h + 1)) p (rnV T e a h)) 3 (nI (T.1 1)) 0
    exact ⟨fun f k1 k2 => (h2.1 f k1).trans (h1.1 f k1 k2), fun f k1 k2 k3 k4 k5 k6 k7 k8 k9 k10 k11 k12 k13 => ((st_f _ e (pn a (h + 1)) _).2 f k11 k12 k13).trans ((h2.2.2 f k1 k2 k3).trans (h1.2.2.1 f k1 k2 k3 k4 k5 k6 k7 k8 k9 k10))⟩
theorem rnL_f (T : SR) (e a : Nat) (h : Nat) : (∀ f, f ≠ 1 → f ≠ 7 → (rnL T e a h).1.1 f = T.1 f) ∧ ∀ f, f ≠ 2 → f ≠ 3 → f ≠ 4 → f ≠ 8 → f ≠ 9 → f ≠ 10 → f ≠ 11 → f ≠ 16 → f ≠ 20 → f ≠ 25 → f ≠ 22 → f ≠ 23 → f ≠ 24 → (rnL T e a h).1.2 f = T.2 f := by
  induction h with
  | zero =>
    have h2 := mk_f T 1 0 0
    exact ⟨fun f k1 _ => h2.1 f k1, fun f k1 k2 k3 _ _ _ _ _ _ _ k11 k12 k13 => ((st_f _ e (2 * a) _).2 f k11 k12 k13).trans (h2.2.2 f k1 k2 k3)⟩
  | succ h ih =>
    have h1 := rn1_f (rnL T e a h).1 e a h (rnL T e a h).2
    exact ⟨fun f k1 k2 => (h1.1 f k1 k2).trans (ih.1 f k1 k2), fun f k1 k2 k3 k4 k5 k6 k7 k8 k9 k10 k11 k12 k13 => (h1.2 f k1 k2 k3 k4 k5 k6 k7 k8 k9 k10 k11 k12 k13).trans (ih.2 f k1 k2 k3 k4 k5 k6 k7 k8 k9 k10 k11 k12 k13)⟩
def noF (X : SR) (k p : Int32) : Prop := ∀ i, i < X.1 1 → ¬ (X.2 2 i = k ∧ X.2 3 i = p ∧ X.2 4 i = 0)
theorem nm_no {T : SR} {p : Int32} (h : noF T 3 (nI (T.1 1))) : ∀ i, i < T.1 1 + 1 → ¬ ((nmR T p).2 2 i = 3 ∧ (nmR T p).2 3 i = nI (T.1 1) ∧ (nmR T p).2 4 i = 0) := by
  intro i hi
  unfold nmR
  by_cases hp : p = -1
  · rw [if_pos hp]
    by_cases e : i = T.1 1
    · subst e; simp [mkR, ra, ri, upd]
    · have := h i (by omega)
      simpa [mkR, ra, ri, upd, e] using this
  · rw [if_neg hp]
    by_cases e : i = T.1 1
    · subst e; simp [mkR, ra, ri, upd]
    · have := h i (by omega)
      simpa [mkR, ra, ri, upd, e] using this
def rnP (X : SR) (e a h : Nat) (p : Int32) : Prop := (rnV X e a h).length ≤ 32 ∧ (rnV X e a h ≠ [] → X.1 1 + 2 ≤ 2600 ∧ X.1 7 + (rnV X e a h).length ≤ 3600 ∧ (p ≠ -1 → noF X 2 p) ∧ noF X 3 (nI (X.1 1)))
theorem sdn_d : ∀ a, a < 16 → ∀ h, h < 4 → a ^^^ 2 ^ h < 16 ∧ sdn a h < 31 ∧ hgt (sdn a h) = h ∧ sdn a h + 2 ^ h ≤ 31 := by decide +kernel
theorem xor_d : ∀ a, a < 16 → ∀ h, h < 4 → nI a ^^^ nI (2 ^ h) = nI (a ^^^ 2 ^ h) := by decide +kernel
theorem rem2 : ∀ r, r < 31 → nI r - nI r / 2 * 2 = nI (r % 2) := by decide +kernel
theorem div2 : ∀ r, r < 31 → nI r / 2 = nI (r / 2) := by decide +kernel
theorem umP_lt {u : Int32} {r : Nat} : ∀ i, i ≤ 16 → r ∈ umP u i → r < 31 := by
  intro i
  induction i with
  | zero => intro _ h; simp [umP] at h
  | succ i ih =>
    intro hi h
    rcases List.mem_append.mp (show r ∈ umP u i ++ (if tb u i = true then [2 * i] else []) from h) with h | h
    · exact ih (by omega) h
    · by_cases hb : tb u i = true
      · rw [if_pos hb] at h; have : r = 2 * i := by simpa using h
        omega
      · rw [if_neg hb] at h; simp at h
theorem rsv_lt {K U : Nat → Int32} {r : Nat} : ∀ h v, v + 2 ^ h ≤ 31 → r ∈ rsv K U h v → r < 31 := by
  intro h
  induction h with
  | zero =>
    intro v hv hr
    simp only [rsv] at hr
    by_cases hk : K v = -1
    · rw [if_pos hk] at hr; simp at hr
    · rw [if_neg hk] at hr; have : r = v := by simpa using hr
      simp at hv; omega
  | succ h ih =>
    intro v hv hr
    have hp : 2 ^ (h + 1) = 2 * 2 ^ h := by rw [Nat.pow_succ]; omega
    have := p2pos h
    rw [show rsv K U (h + 1) v = if K v = -1 then rsv K U h (v + 2 ^ h) ++ rsv K U h (v - 2 ^ h) else v :: umP (U v) 16 from rfl] at hr
    by_cases hk : K v = -1
    · rw [if_pos hk] at hr
      rcases List.mem_append.mp hr with h9 | h9
      · exact ih _ (by omega) h9
      · exact ih _ (by omega) h9
    · rw [if_neg hk] at hr
      rcases List.mem_cons.mp hr with h9 | h9
      · omega
      · exact umP_lt 16 (Nat.le_refl _) h9
set_option maxRecDepth 100000 in
set_option maxHeartbeats 4000000 in
theorem r_renew (l : Launch) (d : gh_D) (g : gh_H) {y : Nat → Nat} {R : SR} (hR : rR g y R) (e a D : Nat) (he : e < 60) (ha : a < 16) (hE : R.1 12 = e) (hD : R.2 13 e = nI D) (hD4 : D ≤ 4) (hN : R.1 1 < 2600) (hok : ∀ h, h < D → rnP (rnL R e a h).1 e a h (rnL R e a h).2) (hfin : (rnL R e a D).1.1 1 < 2600 ∧ ((rnL R e a D).2 ≠ -1 → noF (rnL R e a D).1 2 (rnL R e a D).2)) : gh_C l d mR_renew (rr 3 0 0) [.ref (y 0), .int (nI e), .int (nI a)] g (fun v g1 => v = some (.int (nI ((rnL R e a D).1.1 1))) ∧ ∃ (n : Nat) (F O : Nat → Int32), rQ g g1 y (rs (nmR (rnL R e a D).1 (rnL R e a D).2) n F O)) := by
  refine gh_of [some (.ref (y 0)), some (.int (nI e)), some (.int (nI a)), none, none, none, none, none] (by decide) rfl (Nat.le_of_ble_eq_true rfl) (by simp [Value.category]) (fun z C hQ => ?_)
  show gh_W l d z 0 [some (.ref (y 0)), some (.int (nI e)), some (.int (nI a)), none, none, none, none, none] [] g 0 0
  have h0 := rQ.rf hR
  have loop : ∀ (c h n : Nat) (F O : Nat → Int32) (x5 x6 x7 : Option Value) (g1 : gh_H), h + c = D → rQ g g1 y (rs (rnL R e a h).1 n F O) → gh_W l d z 20 [some (.ref (y 0)), some (.int (nI e)), some (.int (nI a)), some (.int (rnL R e a h).2), some (.int (nI (h + 1))), x5, x6, x7] [] g1 0 0 := by
    intro c
    induction c with
    | zero =>
      intro h n F O x5 x6 x7 g1 hh h1
      have hh : h = D := by omega
      subst hh
      have hf := rnL_f R e a h
      obtain ⟨T, eT⟩ : ∃ T, T = (rnL R e a h).1 := ⟨_, rfl⟩
      obtain ⟨p, ep⟩ : ∃ p, p = (rnL R e a h).2 := ⟨_, rfl⟩
      rw [← eT] at hf h1 hfin
      rw [← eT] at hQ
      rw [← ep] at hfin hQ ⊢
      have hd13 : (rs T n F O).2 13 e = nI h := by
        show T.2 13 e = nI h
        rw [hf.2 13 (by decide) (by decide) (by decide) (by decide) (by decide) (by decide) (by decide) (by decide) (by decide) (by decide) (by decide) (by decide) (by decide)]; exact hD
      refine gh_iload C dR_renew_20 rfl ?_
      refine gh_aload_n C dR_renew_22 rfl ?_
      refine rw_get C h1 fR_38 rfl dR_renew_23 ?_
      refine gh_iload_n C dR_renew_26 rfl ?_
      refine rw_ild C h1 13 60 ⟨rfl, rfl, rfl, by decide⟩ (e) rfl (by omega) dR_renew_27 ?_
      refine gh_ti (nI h) hd13 ?_
      refine gh_icmp_gt C 218 dR_renew_28 (by decide) (fun c28 => ?_) (fun c28 => ?_)
      ·
        refine gh_iload_n C dR_renew_218 rfl ?_
        refine gh_iconst C (-1) dR_renew_219 (by decide) ?_
        refine gh_icmp_ne C 233 dR_renew_220 (by decide) (fun c220 => ?_) (fun c220 => ?_)
        ·
          have hz : nmR T p = mkR T 2 p 0 := by unfold nmR; rw [if_neg c220]
          refine gh_aload_n C dR_renew_233 rfl ?_
          refine gh_iconst C 2 dR_renew_234 (by decide) ?_
          refine gh_iload_n C dR_renew_235 rfl ?_
          refine gh_iconst C 0 dR_renew_236 (by decide) ?_
          refine gh_callV C [.int 2, .int p, .int 0] (r_of l d _ h1.1 2 p 0 hfin.1 (hfin.2 c220)) lR_221 wR_of vR_of h1.1.1 rfl rfl rfl (Nat.le_of_ble_eq_true rfl) ⟨Nat.le_of_ble_eq_true rfl, Nat.le_of_ble_eq_true rfl⟩ (Nat.le_of_ble_eq_true rfl) (Nat.le_of_ble_eq_true rfl) dR_renew_237 (fun v101 g101 k101 => ?_)
          obtain ⟨rfl, h101⟩ := k101
          replace h101 := h1.tr h101
          refine gh_iret C hQ rfl dR_renew_240 ?_
          exact ⟨rfl, n, F, O, by rw [hz, ← mkR_rs]; exact h101⟩
        ·
          have hz : nmR T p = mkR T 1 0 0 := by unfold nmR; rw [if_pos c220]
          refine gh_aload_n C dR_renew_223 rfl ?_
          refine gh_iconst C 1 dR_renew_224 (by decide) ?_
          refine gh_iconst C 0 dR_renew_225 (by decide) ?_
          refine gh_iconst C 0 dR_renew_226 (by decide) ?_
          refine gh_callV C [.int 1, .int 0, .int 0] (r_make l d _ h1.1 1 0 0 hfin.1) lR_143 wR_make vR_make h1.1.1 rfl rfl rfl (Nat.le_of_ble_eq_true rfl) ⟨Nat.le_of_ble_eq_true rfl, Nat.le_of_ble_eq_true rfl⟩ (Nat.le_of_ble_eq_true rfl) (Nat.le_of_ble_eq_true rfl) dR_renew_227 (fun v102 g102 k102 => ?_)
          obtain ⟨rfl, h102⟩ := k102
          replace h102 := h1.tr h102
          refine gh_goto C 240 dR_renew_230 (by decide) ?_
          refine gh_iret C hQ rfl dR_renew_240 ?_
          exact ⟨rfl, n, F, O, by rw [hz, ← mkR_rs]; exact h102⟩
      · exact absurd (show nI h < nI (h + 1) from nI_lt (by omega) (by omega)) c28
    | succ c ih =>
      intro h n F O x5 x6 x7 g1 hh h1
      have hlt : h < D := by omega
      have hf := rnL_f R e a h
      have hP := hok h hlt
      have nxt : ∀ (n : Nat) (F O : Nat → Int32) (x5 x6 x7 : Option Value) (q : Int32) (g2 : gh_H), q = (rnL R e a (h + 1)).2 → rQ g g2 y (rs (rnL R e a (h + 1)).1 n F O) → gh_W l d z 212 [some (.ref (y 0)), some (.int (nI e)), some (.int (nI a)), some (.int q), some (.int (nI (h + 1))), x5, x6, x7] [] g2 0 0 := by
        intro n F O x5 x6 x7 q g2 hq h2
        subst hq
        refine gh_iinc C (nI (h + 1 + 1)) [some (.ref (y 0)), some (.int (nI e)), some (.int (nI a)), some (.int (rnL R e a (h + 1)).2), some (.int (nI (h + 1 + 1))), x5, x6, x7] dR_renew_212 rfl (gh_inc (h + 1)) rfl ?_
        refine gh_goto C 20 dR_renew_215 (by decide) ?_
        exact ih (h + 1) n F O _ _ _ g2 (by omega) h2
      obtain ⟨T, eT⟩ : ∃ T, T = (rnL R e a h).1 := ⟨_, rfl⟩
      obtain ⟨p, ep⟩ : ∃ p, p = (rnL R e a h).2 := ⟨_, rfl⟩
      have hs : rnL R e a (h + 1) = rn1 T e a h p := by rw [eT, ep]; rfl
      rw [← eT] at hf h1 hP
      rw [← ep] at hP ⊢
      rw [hs] at nxt
      have hd13 : ∀ n F O, (rs T n F O).2 13 e = nI D := fun n F O => by
        show T.2 13 e = nI D
        rw [hf.2 13 (by decide) (by decide) (by decide) (by decide) (by decide) (by decide) (by decide) (by decide) (by decide) (by decide) (by decide) (by decide) (by decide)]; exact hD
      have h12 : T.1 12 = e := by rw [hf.1 12 (by decide) (by decide)]; exact hE
      obtain ⟨s1, s2, s3, s4⟩ := sdn_d a ha h (by omega)
      have hvp := pn_lt (h + 1) (show h + 1 ≤ 4 by omega) a ha
      obtain ⟨v, ev⟩ : ∃ v, v = pn a (h + 1) := ⟨_, rfl⟩
      obtain ⟨L, eL⟩ : ∃ L, L = rnV T e a h := ⟨_, rfl⟩
      have eL2 : rsv (fun v => T.2 22 (31 * e + v)) (fun v => T.2 23 (31 * e + v)) (hgt (sdn a h)) (sdn a h) = L := by rw [s3, eL]; rfl
      have hrl : ∀ r, r ∈ L → r < 31 := fun r hr => rsv_lt h (sdn a h) s4 (by rw [eL] at hr; exact hr)
      unfold rnP at hP
      rw [← eL] at hP
      rw [← ev] at hvp
      unfold rn1 at nxt
      rw [← eL, ← ev] at nxt
      have hblk : L = [] → ∀ (F O : Nat → Int32) (x6 x7 : Option Value) (g2 : gh_H), rQ g g2 y (rs T 0 F O) → gh_W l d z 66 [some (.ref (y 0)), some (.int (nI e)), some (.int (nI a)), some (.int p), some (.int (nI (h + 1))), some (.int (nI v)), x6, x7] [] g2 0 0 := by
        intro hL0 F O x6 x7 g2 h2
        rw [if_pos hL0] at nxt
        refine gh_aload_n C dR_renew_66 rfl ?_
        refine gh_iload_n C dR_renew_67 rfl ?_
        refine gh_iload C dR_renew_68 rfl ?_
        refine gh_callV C [.int (nI e), .int (nI v)] (r_blank l d _ h2.1 e v he hvp) lR_172 wR_blank vR_blank h2.1.1 rfl rfl rfl (Nat.le_of_ble_eq_true rfl) ⟨Nat.le_of_ble_eq_true rfl, Nat.le_of_ble_eq_true rfl⟩ (Nat.le_of_ble_eq_true rfl) (Nat.le_of_ble_eq_true rfl) dR_renew_70 (fun v101 g101 k101 => ?_)
        obtain ⟨rfl, h101⟩ := k101
        replace h101 := h2.tr h101
        refine gh_goto C 212 dR_renew_73 (by decide) ?_
        exact nxt 0 F O _ _ _ _ _ rfl (by rw [← blR_rs]; exact h101)
      have hsnd : L ≠ [] → ∀ (F O : Nat → Int32) (x6 x7 : Option Value) (g2 : gh_H), okO F L → rQ g g2 y (rs T L.length F O) → gh_W l d z 76 [some (.ref (y 0)), some (.int (nI e)), some (.int (nI a)), some (.int p), some (.int (nI (h + 1))), some (.int (nI v)), x6, x7] [] g2 0 0 := by
        intro hL0 F O x6 x7 g2 hF h2
        rw [if_neg hL0] at nxt
        obtain ⟨hN2, h36, hno2, hno3⟩ := hP.2 hL0
        obtain ⟨s, es⟩ : ∃ s, s = nI (T.1 1) := ⟨_, rfl⟩
        have hb1 : ∀ k, k ≤ L.length → (∀ f, f ≠ 1 → f ≠ 7 → (rnB T e v p (L.take k)).1 f = T.1 f) ∧ (rnB T e v p (L.take k)).1 1 = T.1 1 + 1 ∧ (∀ f, f ≠ 2 → f ≠ 3 → f ≠ 4 → f ≠ 8 → f ≠ 9 → f ≠ 10 → f ≠ 11 → f ≠ 16 → f ≠ 20 → f ≠ 25 → (rnB T e v p (L.take k)).2 f = T.2 f) ∧ (rnB T e v p (L.take k)).1 7 ≤ T.1 7 + k ∧ ∀ f, f = 2 ∨ f = 3 ∨ f = 4 → (rnB T e v p (L.take k)).2 f = (nmR T p).2 f := fun k hk => by
          have := rnB_f T e v p (L.take k)
          rw [List.length_take, Nat.min_eq_left hk] at this
          exact this
        have loopK : ∀ (c k : Nat) (x7 : Option Value) (g3 : gh_H), k + c = L.length → rQ g g3 y (rs (rnB T e v p (L.take k)) L.length F O) → gh_W l d z 128 [some (.ref (y 0)), some (.int (nI e)), some (.int (nI a)), some (.int s), some (.int (nI (h + 1))), some (.int (nI v)), some (.int (nI k)), x7] [] g3 0 0 := by
          intro c
          induction c with
          | zero =>
            intro k x7 g3 hk h3
            have hk : k = L.length := by omega
            subst hk
            have hb := hb1 L.length (Nat.le_refl _)
            rw [List.take_length] at h3 hb
            obtain ⟨X, eX⟩ : ∃ X, X = rnB T e v p L := ⟨_, rfl⟩
            rw [← eX] at h3 nxt hb
            have hno : ∀ i, i < (rs X L.length F O).1 1 → ¬ ((rs X L.length F O).2 2 i = 3 ∧ (rs X L.length F O).2 3 i = s ∧ (rs X L.length F O).2 4 i = 0) := by
              show ∀ i, i < X.1 1 → ¬ (X.2 2 i = 3 ∧ X.2 3 i = s ∧ X.2 4 i = 0)
              rw [hb.2.1, hb.2.2.2.2 2 (Or.inl rfl), hb.2.2.2.2 3 (Or.inr (Or.inl rfl)), hb.2.2.2.2 4 (Or.inr (Or.inr rfl)), es]
              exact nm_no hno3
            have hNX : (rs X L.length F O).1 1 < 2600 := by show X.1 1 < 2600; rw [hb.2.1]; omega
            have eN : nI ((rs X L.length F O).1 1) = nI (T.1 1 + 1) := by show nI (X.1 1) = _; rw [hb.2.1]
            refine gh_iload C dR_renew_128 rfl ?_
            refine gh_aload_n C dR_renew_130 rfl ?_
            refine rw_get C h3 fR_176 rfl dR_renew_131 ?_
            refine gh_ti (nI L.length) rfl ?_
            refine gh_icmp_ge C 198 dR_renew_134 (by decide) (fun c134 => ?_) (fun c134 => ?_)
            ·
              refine gh_aload_n C dR_renew_198 rfl ?_
              refine gh_iload_n C dR_renew_199 rfl ?_
              refine gh_iload C dR_renew_200 rfl ?_
              refine gh_aload_n C dR_renew_202 rfl ?_
              refine gh_iconst C 3 dR_renew_203 (by decide) ?_
              refine gh_iload_n C dR_renew_204 rfl ?_
              refine gh_iconst C 0 dR_renew_205 (by decide) ?_
              refine gh_callV C [.int 3, .int s, .int 0] (r_of l d _ h3.1 3 s 0 hNX hno) lR_221 wR_of vR_of h3.1.1 rfl rfl rfl (Nat.le_of_ble_eq_true rfl) ⟨Nat.le_of_ble_eq_true rfl, Nat.le_of_ble_eq_true rfl⟩ (Nat.le_of_ble_eq_true rfl) (Nat.le_of_ble_eq_true rfl) dR_renew_206 (fun v101 g101 k101 => ?_)
              obtain ⟨rfl, h101⟩ := k101
              replace h101 := h3.tr h101
              rw [eN]
              refine gh_callV C [.int (nI e), .int (nI v), .int (nI (T.1 1 + 1))] (r_set l d _ h101.1 e v (nI (T.1 1 + 1)) he hvp) lR_204 wR_set vR_set h101.1.1 rfl rfl rfl (Nat.le_of_ble_eq_true rfl) ⟨Nat.le_of_ble_eq_true rfl, Nat.le_of_ble_eq_true rfl⟩ (Nat.le_of_ble_eq_true rfl) (Nat.le_of_ble_eq_true rfl) dR_renew_209 (fun v102 g102 k102 => ?_)
              obtain ⟨rfl, h102⟩ := k102
              replace h102 := h101.tr h102
              refine nxt L.length F O _ _ _ _ _ es ?_
              have h9 := h102
              rw [mkR_rs, stR_rs, es] at h9
              exact h9
            · exact absurd (nI_le (Nat.le_refl _) (by have := hP.1; omega)) c134
          | succ c ihK =>
            intro k x7 g3 hk h3
            have hkl : k < L.length := by omega
            obtain ⟨r, hr⟩ : ∃ r, L[k]? = some r := ⟨_, List.getElem?_eq_getElem hkl⟩
            have hFk := hF k r hr
            have hr31 := hrl r (List.mem_of_getElem? hr)
            have hb := hb1 k (by omega)
            have eS : rnB T e v p (L.take (k + 1)) = sn1 e v (nI (T.1 1)) (rnB T e v p (L.take k)) r := by
              unfold rnB snR
              rw [List.take_add_one, hr, List.foldl_append]
              rfl
            have incK : ∀ (x7 : Option Value) (g4 : gh_H), rQ g g4 y (rs (rnB T e v p (L.take (k + 1))) L.length F O) → gh_W l d z 192 [some (.ref (y 0)), some (.int (nI e)), some (.int (nI a)), some (.int s), some (.int (nI (h + 1))), some (.int (nI v)), some (.int (nI k)), x7] [] g4 0 0 := by
              intro x7 g4 h4
              refine gh_iinc C (nI (k + 1)) [some (.ref (y 0)), some (.int (nI e)), some (.int (nI a)), some (.int s), some (.int (nI (h + 1))), some (.int (nI v)), some (.int (nI (k + 1))), x7] dR_renew_192 rfl (gh_inc k) rfl ?_
              refine gh_goto C 128 dR_renew_195 (by decide) ?_
              exact ihK (k + 1) x7 g4 (by omega) h4
            obtain ⟨X, eX⟩ : ∃ X, X = rnB T e v p (L.take k) := ⟨_, rfl⟩
            rw [eS] at incK
            rw [← eX] at h3 hb incK
            have h19 : (rs X L.length F O).2 19 e = X.2 19 e := rfl
            have hl32 := hP.1
            have enc : ¬ rsk X e r → ∀ (x7 : Option Value) (g4 : gh_H), rQ g g4 y (rs X L.length F O) → gh_W l d z 173 [some (.ref (y 0)), some (.int (nI e)), some (.int (nI a)), some (.int s), some (.int (nI (h + 1))), some (.int (nI v)), some (.int (nI k)), some (.int (nI r))] [] g4 0 0 := by
              intro hsk x7 g4 h4
              refine gh_aload_n C dR_renew_173 rfl ?_
              refine gh_aload_n C dR_renew_174 rfl ?_
              refine rw_get C h4 fR_65 rfl dR_renew_175 ?_
              refine gh_bipush C 31 dR_renew_178 (by decide) ?_
              refine gh_iload_n C dR_renew_180 rfl ?_
              refine gh_imul C dR_renew_181 ?_
              refine gh_ti (nI (31 * e)) (pk_mul 31 e) ?_
              refine gh_iload C dR_renew_182 rfl ?_
              refine gh_iadd C dR_renew_184 ?_
              refine gh_ti (nI (31 * e + r)) (nI_add (31 * e) r) ?_
              refine rw_ild C h4 22 1860 ⟨rfl, rfl, rfl, by decide⟩ (31 * e + r) rfl (by omega) dR_renew_185 ?_
              refine gh_ti (rK X e r) rfl ?_
              refine gh_iload_n C dR_renew_186 rfl ?_
              refine gh_iload C dR_renew_187 rfl ?_
              refine gh_callV C [.int (rK X e r), .int s, .int (nI v)] (r_encrypt l d _ h4.1 (rK X e r) s (nI v) (by show X.1 7 < 3600; have := hb.2.2.2.1; omega) (by show X.1 12 < 60; rw [hb.1 12 (by decide) (by decide), h12]; exact he)) lR_224 wR_encrypt vR_encrypt h4.1.1 rfl rfl rfl (Nat.le_of_ble_eq_true rfl) ⟨Nat.le_of_ble_eq_true rfl, Nat.le_of_ble_eq_true rfl⟩ (Nat.le_of_ble_eq_true rfl) (Nat.le_of_ble_eq_true rfl) dR_renew_189 (fun v101 g101 k101 => ?_)
              obtain ⟨rfl, h101⟩ := k101
              replace h101 := h4.tr h101
              refine incK _ _ ?_
              unfold sn1
              rw [if_neg hsk, ← es, ← enR_rs]
              exact h101
            refine gh_iload C dR_renew_128 rfl ?_
            refine gh_aload_n C dR_renew_130 rfl ?_
            refine rw_get C h3 fR_176 rfl dR_renew_131 ?_
            refine gh_ti (nI L.length) rfl ?_
            refine gh_icmp_ge C 198 dR_renew_134 (by decide) (fun c134 => ?_) (fun c134 => ?_)
            · exact absurd c134 (nI_ge hkl (by omega))
            ·
              refine gh_aload_n C dR_renew_137 rfl ?_
              refine rw_get C h3 fR_134 rfl dR_renew_138 ?_
              refine gh_iload C dR_renew_141 rfl ?_
              refine rw_ild C h3 49 32 ⟨rfl, rfl, rfl, by decide⟩ (k) rfl (by omega) dR_renew_143 ?_
              refine gh_ti (nI r) hFk ?_
              refine gh_istore C [some (.ref (y 0)), some (.int (nI e)), some (.int (nI a)), some (.int s), some (.int (nI (h + 1))), some (.int (nI v)), some (.int (nI k)), some (.int (nI r))] dR_renew_144 rfl (Nat.le_of_ble_eq_true rfl) ?_
              refine gh_iload C dR_renew_146 rfl ?_
              refine gh_iconst C 2 dR_renew_148 (by decide) ?_
              refine gh_irem C dR_renew_149 (by decide) ?_
              refine gh_ti (nI (r % 2)) (rem2 r hr31) ?_
              refine gh_if_ne C 173 dR_renew_150 (by decide) (fun c150 => ?_) (fun c150 => ?_)
              · exact enc (fun hq => c150 (by rw [hq.1]; rfl)) none _ h3
              ·
                have hr2 : r % 2 = 0 := (nI_eq (b := 0) (by omega) (by omega)).mp c150
                refine gh_aload_n C dR_renew_153 rfl ?_
                refine rw_get C h3 fR_56 rfl dR_renew_154 ?_
                refine gh_iload_n C dR_renew_157 rfl ?_
                refine rw_ild C h3 19 60 ⟨rfl, rfl, rfl, by decide⟩ (e) rfl (by omega) dR_renew_158 ?_
                refine gh_ti (X.2 19 e) rfl ?_
                refine gh_iload C dR_renew_159 rfl ?_
                refine gh_iconst C 2 dR_renew_161 (by decide) ?_
                refine gh_idiv C dR_renew_162 (by decide) ?_
                refine gh_ti (nI (r / 2)) (div2 r hr31) ?_
                refine gh_ishr C dR_renew_163 ?_
                refine gh_iconst C 1 dR_renew_164 (by decide) ?_
                refine gh_iand C dR_renew_165 ?_
                refine gh_iconst C 1 dR_renew_166 (by decide) ?_
                refine gh_icmp_ne C 173 dR_renew_167 (by decide) (fun c167 => ?_) (fun c167 => ?_)
                · exact enc (fun hq => c167 ((bt1 (by omega)).mpr hq.2)) none _ h3
                · refine gh_goto C 192 dR_renew_170 (by decide) ?_
                  exact incK _ _ (by unfold sn1; rw [if_pos ⟨hr2, (bt1 (by omega)).mp c167⟩]; exact h3)
        have at98 : ∀ (x6 x7 : Option Value) (g3 : gh_H), rQ g g3 y (rs (nmR T p) L.length F O) → gh_W l d z 98 [some (.ref (y 0)), some (.int (nI e)), some (.int (nI a)), some (.int p), some (.int (nI (h + 1))), some (.int (nI v)), x6, x7] [.int s] g3 0 0 := by
          intro x6 x7 g3 h3
          refine gh_istore_n C [some (.ref (y 0)), some (.int (nI e)), some (.int (nI a)), some (.int s), some (.int (nI (h + 1))), some (.int (nI v)), x6, x7] dR_renew_98 rfl (Nat.le_of_ble_eq_true rfl) ?_
          refine gh_aload_n C dR_renew_99 rfl ?_
          refine rw_get C h3 fR_74 rfl dR_renew_100 ?_
          refine gh_bipush C 31 dR_renew_103 (by decide) ?_
          refine gh_iload_n C dR_renew_105 rfl ?_
          refine gh_imul C dR_renew_106 ?_
          refine gh_ti (nI (31 * e)) (pk_mul 31 e) ?_
          refine gh_iload C dR_renew_107 rfl ?_
          refine gh_iadd C dR_renew_109 ?_
          refine gh_ti (nI (31 * e + v)) (nI_add (31 * e) v) ?_
          refine gh_iload_n C dR_renew_110 rfl ?_
          refine rw_ist C h3 25 1860 ⟨rfl, rfl, rfl, by decide⟩ (31 * e + v) rfl (by omega) dR_renew_111 (fun g101 h101 => ?_)
          have h101 : rQ g g101 y (ra (rs (nmR T p) L.length F O) 25 (upd ((rs (nmR T p) L.length F O).2 25) (31 * e + v) s)) := h101
          refine gh_aload_n C dR_renew_112 rfl ?_
          refine rw_get C h101 fR_47 rfl dR_renew_113 ?_
          refine gh_iload_n C dR_renew_116 rfl ?_
          refine gh_dup2 C dR_renew_117 rfl rfl ?_
          refine rw_ild C h101 16 60 ⟨rfl, rfl, rfl, by decide⟩ (e) rfl (by omega) dR_renew_118 ?_
          refine gh_ti ((rs (nmR T p) L.length F O).2 16 e) rfl ?_
          refine gh_iconst C 1 dR_renew_119 (by decide) ?_
          refine gh_iload C dR_renew_120 rfl ?_
          refine gh_ishl C dR_renew_122 ?_
          refine gh_ior C dR_renew_123 ?_
          refine rw_ist C h101 16 60 ⟨rfl, rfl, rfl, by decide⟩ (e) rfl (by omega) dR_renew_124 (fun g102 h102 => ?_)
          have h102 : rQ g g102 y (ra (ra (rs (nmR T p) L.length F O) 25 (upd ((rs (nmR T p) L.length F O).2 25) (31 * e + v) s)) 16 (upd ((rs (nmR T p) L.length F O).2 16) e (((rs (nmR T p) L.length F O).2 16 e) ||| (1 <<< ((nI v) &&& 31))))) := h102
          refine gh_iconst C 0 dR_renew_125 (by decide) ?_
          refine gh_istore C [some (.ref (y 0)), some (.int (nI e)), some (.int (nI a)), some (.int s), some (.int (nI (h + 1))), some (.int (nI v)), some (.int 0), x7] dR_renew_126 rfl (Nat.le_of_ble_eq_true rfl) ?_
          refine loopK L.length 0 _ _ (by omega) ?_
          rw [List.take_zero]
          show rQ g _ y (rs (pcR (nmR T p) e v (nI (T.1 1))) L.length F O)
          rw [← es, ← pcR_rs]
          exact h102
        refine gh_iload_n C dR_renew_76 rfl ?_
        refine gh_iconst C (-1) dR_renew_77 (by decide) ?_
        refine gh_icmp_ne C 91 dR_renew_78 (by decide) (fun c78 => ?_) (fun c78 => ?_)
        ·
          refine gh_aload_n C dR_renew_91 rfl ?_
          refine gh_iconst C 2 dR_renew_92 (by decide) ?_
          refine gh_iload_n C dR_renew_93 rfl ?_
          refine gh_iconst C 0 dR_renew_94 (by decide) ?_
          refine gh_callV C [.int 2, .int p, .int 0] (r_of l d _ h2.1 2 p 0 (by show T.1 1 < 2600; omega) (hno2 c78)) lR_221 wR_of vR_of h2.1.1 rfl rfl rfl (Nat.le_of_ble_eq_true rfl) ⟨Nat.le_of_ble_eq_true rfl, Nat.le_of_ble_eq_true rfl⟩ (Nat.le_of_ble_eq_true rfl) (Nat.le_of_ble_eq_true rfl) dR_renew_95 (fun v101 g101 k101 => ?_)
          obtain ⟨rfl, h101⟩ := k101
          replace h101 := h2.tr h101
          rw [show nI ((rs T L.length F O).1 1) = s from es.symm]
          refine at98 _ _ _ ?_
          rw [← nmR_rs]
          unfold nmR
          first
            | (rw [if_pos c78]; exact h101)
            | (rw [if_neg c78]; exact h101)
        ·
          refine gh_aload_n C dR_renew_81 rfl ?_
          refine gh_iconst C 1 dR_renew_82 (by decide) ?_
          refine gh_iconst C 0 dR_renew_83 (by decide) ?_
          refine gh_iconst C 0 dR_renew_84 (by decide) ?_
          refine gh_callV C [.int 1, .int 0, .int 0] (r_make l d _ h2.1 1 0 0 (by show T.1 1 < 2600; omega)) lR_143 wR_make vR_make h2.1.1 rfl rfl rfl (Nat.le_of_ble_eq_true rfl) ⟨Nat.le_of_ble_eq_true rfl, Nat.le_of_ble_eq_true rfl⟩ (Nat.le_of_ble_eq_true rfl) (Nat.le_of_ble_eq_true rfl) dR_renew_85 (fun v102 g102 k102 => ?_)
          obtain ⟨rfl, h102⟩ := k102
          replace h102 := h2.tr h102
          rw [show nI ((rs T L.length F O).1 1) = s from es.symm]
          refine gh_goto C 98 dR_renew_88 (by decide) ?_
          refine at98 _ _ _ ?_
          rw [← nmR_rs]
          unfold nmR
          first
            | (rw [if_pos c78]; exact h102)
            | (rw [if_neg c78]; exact h102)
      refine gh_iload C dR_renew_20 rfl ?_
      refine gh_aload_n C dR_renew_22 rfl ?_
      refine rw_get C h1 fR_38 rfl dR_renew_23 ?_
      refine gh_iload_n C dR_renew_26 rfl ?_
      refine rw_ild C h1 13 60 ⟨rfl, rfl, rfl, by decide⟩ (e) rfl (by omega) dR_renew_27 ?_
      refine gh_ti (nI D) (hd13 n F O) ?_
      refine gh_icmp_gt C 218 dR_renew_28 (by decide) (fun c28 => ?_) (fun c28 => ?_)
      · exact absurd (show nI D < nI (h + 1) from c28) (nI_nlt (by omega) (by omega))
      ·
        refine gh_iload_n C dR_renew_31 rfl ?_
        refine gh_iload C dR_renew_32 rfl ?_
        refine gh_callS C [.int (nI a), .int (nI (h + 1))] (r_above l d _ a (h + 1) ha (by omega)) lR_168 wR_above sR_above rfl rfl (Nat.le_of_ble_eq_true rfl) ⟨Nat.le_of_ble_eq_true rfl, Nat.le_of_ble_eq_true rfl⟩ (Nat.le_of_ble_eq_true rfl) (Nat.le_of_ble_eq_true rfl) dR_renew_34 (fun v101 g101 k101 => ?_)
        obtain ⟨rfl, e101⟩ := k101
        subst g101
        rw [← ev]
        refine gh_istore C [some (.ref (y 0)), some (.int (nI e)), some (.int (nI a)), some (.int p), some (.int (nI (h + 1))), some (.int (nI v)), x6, x7] dR_renew_37 rfl (Nat.le_of_ble_eq_true rfl) ?_
        refine gh_aload_n C dR_renew_39 rfl ?_
        refine gh_iload_n C dR_renew_40 rfl ?_
        refine gh_iload_n C dR_renew_41 rfl ?_
        refine gh_iconst C 1 dR_renew_42 (by decide) ?_
        refine gh_iload C dR_renew_43 rfl ?_
        refine gh_iconst C 1 dR_renew_45 (by decide) ?_
        refine gh_isub C dR_renew_46 ?_
        refine gh_ti (nI h) (nI_pred h) ?_
        refine gh_ishl C dR_renew_47 ?_
        refine gh_ti (nI (2 ^ h)) (sh1h h (by omega)) ?_
        refine gh_ixor C dR_renew_48 ?_
        refine gh_ti (nI (a ^^^ 2 ^ h)) (xor_d a ha h (by omega)) ?_
        refine gh_iload C dR_renew_49 rfl ?_
        refine gh_iconst C 1 dR_renew_51 (by decide) ?_
        refine gh_isub C dR_renew_52 ?_
        refine gh_ti (nI h) (nI_pred h) ?_
        refine gh_callS C [.int (nI (a ^^^ 2 ^ h)), .int (nI h)] (r_above l d _ (a ^^^ 2 ^ h) h s1 (by omega)) lR_168 wR_above sR_above rfl rfl (Nat.le_of_ble_eq_true rfl) ⟨Nat.le_of_ble_eq_true rfl, Nat.le_of_ble_eq_true rfl⟩ (Nat.le_of_ble_eq_true rfl) (Nat.le_of_ble_eq_true rfl) dR_renew_53 (fun v102 g102 k102 => ?_)
        obtain ⟨rfl, e102⟩ := k102
        subst g102
        rw [show pn (a ^^^ 2 ^ h) h = sdn a h from rfl]
        refine gh_callV C [.int (nI e), .int (nI (sdn a h))] (r_resolve l d _ h1.1 e (sdn a h) he s2 (by show (rsv (fun v => T.2 22 (31 * e + v)) (fun v => T.2 23 (31 * e + v)) (hgt (sdn a h)) (sdn a h)).length ≤ 32; rw [eL2]; exact hP.1)) lR_218 wR_resolve vR_resolve h1.1.1 rfl rfl rfl (Nat.le_of_ble_eq_true rfl) ⟨Nat.le_of_ble_eq_true rfl, Nat.le_of_ble_eq_true rfl⟩ (Nat.le_of_ble_eq_true rfl) (Nat.le_of_ble_eq_true rfl) dR_renew_56 (fun v103 g103 k103 => ?_)
        obtain ⟨rfl, F1, O1, h103, o103⟩ := k103
        replace h103 := h1.tr h103
        change rQ g g103 y (rs (rs T n F O) (rsv (fun v => T.2 22 (31 * e + v)) (fun v => T.2 23 (31 * e + v)) (hgt (sdn a h)) (sdn a h)).length F1 O1) at h103
        change okO F1 (rsv (fun v => T.2 22 (31 * e + v)) (fun v => T.2 23 (31 * e + v)) (hgt (sdn a h)) (sdn a h)) at o103
        rw [rs_rs, eL2] at h103
        rw [eL2] at o103
        have oF := o103
        have hX := h103
        refine gh_aload_n C dR_renew_59 rfl ?_
        refine rw_get C h103 fR_176 rfl dR_renew_60 ?_
        refine gh_ti (nI L.length) rfl ?_
        refine gh_if_ne C 76 dR_renew_63 (by decide) (fun c63 => ?_) (fun c63 => ?_)
        · have hL0 : L ≠ [] := fun h9 => c63 (by rw [h9]; rfl)
          exact hsnd hL0 F1 O1 _ _ _ oF hX
        · have hL0 : L = [] := by
            have h9 : L.length = 0 := (nI_eq (b := 0) (by have := hP.1; omega) (by omega)).mp c63
            exact List.length_eq_zero_iff.mp h9
          have hq9 := hX
          rw [hL0] at hq9
          exact hblk hL0 F1 O1 _ _ _ hq9
  refine gh_aload_n C dR_renew_0 rfl ?_
  refine gh_iload_n C dR_renew_1 rfl ?_
  refine gh_iconst C 2 dR_renew_2 (by decide) ?_
  refine gh_iload_n C dR_renew_3 rfl ?_
  refine gh_imul C dR_renew_4 ?_
  refine gh_ti (nI (2 * a)) (pk_mul 2 a) ?_
  refine gh_aload_n C dR_renew_5 rfl ?_
  refine gh_iconst C 1 dR_renew_6 (by decide) ?_
  refine gh_iconst C 0 dR_renew_7 (by decide) ?_
  refine gh_iconst C 0 dR_renew_8 (by decide) ?_
  refine gh_callV C [.int 1, .int 0, .int 0] (r_make l d _ h0.1 1 0 0 hN) lR_143 wR_make vR_make h0.1.1 rfl rfl rfl (Nat.le_of_ble_eq_true rfl) ⟨Nat.le_of_ble_eq_true rfl, Nat.le_of_ble_eq_true rfl⟩ (Nat.le_of_ble_eq_true rfl) (Nat.le_of_ble_eq_true rfl) dR_renew_9 (fun v101 g101 k101 => ?_)
  obtain ⟨rfl, h101⟩ := k101
  replace h101 := h0.tr h101
  refine gh_callV C [.int (nI e), .int (nI (2 * a)), .int (nI (R.1 1))] (r_set l d _ h101.1 e (2 * a) (nI (R.1 1)) he (by omega)) lR_204 wR_set vR_set h101.1.1 rfl rfl rfl (Nat.le_of_ble_eq_true rfl) ⟨Nat.le_of_ble_eq_true rfl, Nat.le_of_ble_eq_true rfl⟩ (Nat.le_of_ble_eq_true rfl) (Nat.le_of_ble_eq_true rfl) dR_renew_12 (fun v102 g102 k102 => ?_)
  obtain ⟨rfl, h102⟩ := k102
  replace h102 := h101.tr h102
  refine gh_iconst C (-1) dR_renew_15 (by decide) ?_
  refine gh_istore_n C [some (.ref (y 0)), some (.int (nI e)), some (.int (nI a)), some (.int (-1)), none, none, none, none] dR_renew_16 rfl (Nat.le_of_ble_eq_true rfl) ?_
  refine gh_iconst C 1 dR_renew_17 (by decide) ?_
  refine gh_istore C [some (.ref (y 0)), some (.int (nI e)), some (.int (nI a)), some (.int (-1)), some (.int 1), none, none, none] dR_renew_18 rfl (Nat.le_of_ble_eq_true rfl) ?_
  obtain ⟨X, eX⟩ : ∃ X, X = stR (mkR R 1 0 0) e (2 * a) (nI (R.1 1)) := ⟨_, rfl⟩
  have h9 := h102
  rw [← eX, ← rs_self X] at h9
  refine loop D 0 (X.1 48) (X.2 49) (X.2 50) _ _ _ _ (by omega) ?_
  rw [show (rnL R e a 0).1 = X from eX.symm]
  exact h9
