/-! follows, intrude -/
def fol (R : SR) (K : Nat → Prop) (k : Nat) : Prop := R.2 2 k = 0 ∨ (R.2 2 k ≠ 0 ∧ R.2 2 k ≠ 1 ∧ K (R.2 3 k).toNatClampNeg ∧ (R.2 2 k = 4 → K (R.2 4 k).toNatClampNeg))
def wfK (R : SR) : Prop := R.1 1 ≤ 2600 ∧ R.1 7 ≤ 3600 ∧ (∀ k, k < R.1 1 → (R.2 5 k = 0 ∨ R.2 5 k = 1)) ∧ (∀ k, k < R.1 1 → R.2 2 k ≠ 0 → R.2 2 k ≠ 1 → (∃ a, a < R.1 1 ∧ R.2 3 k = nI a) ∧ (R.2 2 k = 4 → ∃ b, b < R.1 1 ∧ R.2 4 k = nI b)) ∧ ∀ k, k < R.1 7 → (∃ a, a < R.1 1 ∧ R.2 8 k = nI a) ∧ ∃ b, b < R.1 1 ∧ R.2 9 k = nI b
def clR (R : SR) (K : Nat → Prop) : Prop := (∀ k, k < R.1 1 → R.2 5 k ≠ 0 → K k) ∧ (∀ k, k < R.1 1 → fol R K k → K k) ∧ ∀ k, k < R.1 7 → K (R.2 8 k).toNatClampNeg → K (R.2 9 k).toNatClampNeg
def KnR (R : SR) (k : Nat) : Prop := ∀ K : Nat → Prop, clR R K → K k
def kn1 (f : Nat → Int32) (k : Nat) : Prop := f k = 1
def b01 (N : Nat) (f : Nat → Int32) : Prop := ∀ k, k < N → (f k = 0 ∨ f k = 1)
theorem fol_mono {R : SR} {K K1 : Nat → Prop} {k : Nat} (h : ∀ j, K j → K1 j) (hf : fol R K k) : fol R K1 k := by
  rcases hf with h1 | ⟨h1, h2, h3, h4⟩
  · exact Or.inl h1
  · exact Or.inr ⟨h1, h2, h _ h3, fun h5 => h _ (h4 h5)⟩
theorem KnR_cl (R : SR) : clR R (KnR R) := ⟨fun k hk ht K hK => hK.1 k hk ht, fun k hk hf K hK => hK.2.1 k hk (fol_mono (fun j hj => hj K hK) hf), fun k hk h K hK => hK.2.2 k hk (h K hK)⟩
def cnt (N : Nat) (f : Nat → Int32) : Nat := ((List.range N).filter (fun k => decide (f k = 1))).length
theorem cnt_s (n : Nat) (f : Nat → Int32) : cnt (n + 1) f = cnt n f + if f n = 1 then 1 else 0 := by
  unfold cnt
  rw [List.range_succ, List.filter_append, List.length_append]
  by_cases h : f n = 1
  · simp [h]
  · simp [h]
theorem cnt_le (N : Nat) (f : Nat → Int32) : cnt N f ≤ N := by
  unfold cnt
  exact Nat.le_trans (List.length_filter_le _ _) (by simp)
theorem cnt_out {N k : Nat} {f : Nat → Int32} {x : Int32} (h : N ≤ k) : cnt N (upd f k x) = cnt N f := by
  induction N with
  | zero => rfl
  | succ n ih =>
    rw [cnt_s, cnt_s, ih (by omega)]
    simp [upd, show n ≠ k by omega]
theorem cnt_up {N k : Nat} {f : Nat → Int32} (hk : k < N) (h0 : f k = 0) : cnt N (upd f k 1) = cnt N f + 1 := by
  induction N with
  | zero => omega
  | succ n ih =>
    rw [cnt_s, cnt_s]
    by_cases e : k = n
    · subst e
      rw [cnt_out (Nat.le_refl _)]
      simp [upd, h0]
    · rw [ih (by omega)]
      simp only [upd, show n ≠ k from fun h => e h.symm, if_false]
      omega
set_option maxRecDepth 100000 in
set_option maxHeartbeats 4000000 in
theorem r_follows (l : Launch) (d : gh_D) (g : gh_H) {y : Nat → Nat} {R : SR} (hR : rR g y R) (k : Nat) (hw : wfK R) (hk : k < R.1 1) (h01 : b01 (R.1 1) (R.2 6)) : gh_C l d mR_follows (rr 0 0 0) [.ref (y 0), .int (nI k)] g (fun v g1 => (∃ x : Int32, v = some (.int x) ∧ (x = 0 ∨ x = 1) ∧ (x = 1 ↔ fol R (kn1 (R.2 6)) k)) ∧ g1 = g) := by
  have hN := hw.1
  refine gh_of [some (.ref (y 0)), some (.int (nI k))] (by decide) rfl (Nat.le_of_ble_eq_true rfl) (by simp [Value.category]) (fun z C hQ => ?_)
  show gh_W l d z 0 [some (.ref (y 0)), some (.int (nI k))] [] g 0 0
  have h0 := rQ.rf hR
  refine gh_aload_n C dR_follows_0 rfl ?_
  refine rw_get C h0 fR_7 rfl dR_follows_1 ?_
  refine gh_iload_n C dR_follows_4 rfl ?_
  refine rw_ild C h0 2 2600 ⟨rfl, rfl, rfl, by decide⟩ (k) rfl (by omega) dR_follows_5 ?_
  have hz9 : R.2 2 k = 0 ∨ R.2 2 k = 1 ∨ (R.2 2 k ≠ 0 ∧ R.2 2 k ≠ 1) := by
    by_cases h1 : R.2 2 k = 0
    · exact Or.inl h1
    · by_cases h2 : R.2 2 k = 1
      · exact Or.inr (Or.inl h2)
      · exact Or.inr (Or.inr ⟨h1, h2⟩)
  by_cases t6_0 : R.2 2 k = 0
  · rw [t6_0]
    refine gh_tabIn C 40 dR_follows_6 (by decide) (by decide) rfl (by decide) ?_
    refine gh_iconst C 1 dR_follows_40 (by decide) ?_
    refine gh_zret C hQ rfl (by simp) dR_follows_41 ?_
    exact ⟨⟨1, rfl, Or.inr rfl, by unfold fol; simp [t6_0]⟩, rfl⟩
  by_cases t6_1 : R.2 2 k = 1
  · rw [t6_1]
    refine gh_tabIn C 42 dR_follows_6 (by decide) (by decide) rfl (by decide) ?_
    refine gh_iconst C 0 dR_follows_42 (by decide) ?_
    refine gh_zret C hQ rfl (by simp) dR_follows_43 ?_
    exact ⟨⟨0, rfl, Or.inl rfl, by unfold fol; simp [t6_1]⟩, rfl⟩
  by_cases t6_2 : R.2 2 k = 2
  · rw [t6_2]
    refine gh_tabIn C 78 dR_follows_6 (by decide) (by decide) rfl (by decide) ?_
    have n01 : R.2 2 k ≠ 0 ∧ R.2 2 k ≠ 1 ∧ R.2 2 k ≠ 4 := by rw [t6_2]; decide
    obtain ⟨⟨a, ha, hfa⟩, -⟩ := hw.2.2.2.1 k hk n01.1 n01.2.1
    have ca : (R.2 3 k).toNatClampNeg = a := by rw [hfa]; exact nI_clamp (by omega)
    have fq : fol R (kn1 (R.2 6)) k ↔ R.2 6 a = 1 := by
      unfold fol kn1
      rw [ca]
      simp [n01.1, n01.2.1, n01.2.2]
    refine gh_aload_n C dR_follows_78 rfl ?_
    refine rw_get C h0 fR_23 rfl dR_follows_79 ?_
    refine gh_aload_n C dR_follows_82 rfl ?_
    refine rw_get C h0 fR_13 rfl dR_follows_83 ?_
    refine gh_iload_n C dR_follows_86 rfl ?_
    refine rw_ild C h0 3 2600 ⟨rfl, rfl, rfl, by decide⟩ (k) rfl (by omega) dR_follows_87 ?_
    refine rw_zld C h0 6 2600 ⟨rfl, rfl, rfl, by decide⟩ (a) hfa (by omega) dR_follows_88 ?_
    refine gh_zret C hQ rfl (h01 a ha) dR_follows_89 ?_
    exact ⟨⟨R.2 6 a, rfl, h01 a ha, fq.symm⟩, rfl⟩
  by_cases t6_3 : R.2 2 k = 3
  · rw [t6_3]
    refine gh_tabIn C 78 dR_follows_6 (by decide) (by decide) rfl (by decide) ?_
    have n01 : R.2 2 k ≠ 0 ∧ R.2 2 k ≠ 1 ∧ R.2 2 k ≠ 4 := by rw [t6_3]; decide
    obtain ⟨⟨a, ha, hfa⟩, -⟩ := hw.2.2.2.1 k hk n01.1 n01.2.1
    have ca : (R.2 3 k).toNatClampNeg = a := by rw [hfa]; exact nI_clamp (by omega)
    have fq : fol R (kn1 (R.2 6)) k ↔ R.2 6 a = 1 := by
      unfold fol kn1
      rw [ca]
      simp [n01.1, n01.2.1, n01.2.2]
    refine gh_aload_n C dR_follows_78 rfl ?_
    refine rw_get C h0 fR_23 rfl dR_follows_79 ?_
    refine gh_aload_n C dR_follows_82 rfl ?_
    refine rw_get C h0 fR_13 rfl dR_follows_83 ?_
    refine gh_iload_n C dR_follows_86 rfl ?_
    refine rw_ild C h0 3 2600 ⟨rfl, rfl, rfl, by decide⟩ (k) rfl (by omega) dR_follows_87 ?_
    refine rw_zld C h0 6 2600 ⟨rfl, rfl, rfl, by decide⟩ (a) hfa (by omega) dR_follows_88 ?_
    refine gh_zret C hQ rfl (h01 a ha) dR_follows_89 ?_
    exact ⟨⟨R.2 6 a, rfl, h01 a ha, fq.symm⟩, rfl⟩
  by_cases t6_4 : R.2 2 k = 4
  · rw [t6_4]
    refine gh_tabIn C 44 dR_follows_6 (by decide) (by decide) rfl (by decide) ?_
    obtain ⟨⟨a, ha, hfa⟩, hsb⟩ := hw.2.2.2.1 k hk (by rw [t6_4]; decide) (by rw [t6_4]; decide)
    obtain ⟨b, hb, hfb⟩ := hsb t6_4
    have ca : (R.2 3 k).toNatClampNeg = a := by rw [hfa]; exact nI_clamp (by omega)
    have cb9 : (R.2 4 k).toNatClampNeg = b := by rw [hfb]; exact nI_clamp (by omega)
    have fq : fol R (kn1 (R.2 6)) k ↔ R.2 6 a = 1 ∧ R.2 6 b = 1 := by
      unfold fol kn1
      rw [ca, cb9, t6_4]
      simp
    refine gh_aload_n C dR_follows_44 rfl ?_
    refine rw_get C h0 fR_23 rfl dR_follows_45 ?_
    refine gh_aload_n C dR_follows_48 rfl ?_
    refine rw_get C h0 fR_13 rfl dR_follows_49 ?_
    refine gh_iload_n C dR_follows_52 rfl ?_
    refine rw_ild C h0 3 2600 ⟨rfl, rfl, rfl, by decide⟩ (k) rfl (by omega) dR_follows_53 ?_
    refine rw_zld C h0 6 2600 ⟨rfl, rfl, rfl, by decide⟩ (a) hfa (by omega) dR_follows_54 ?_
    refine gh_if_eq C 76 dR_follows_55 (by decide) (fun c55 => ?_) (fun c55 => ?_)
    ·
      have hz : ¬ fol R (kn1 (R.2 6)) k := fun h => by rw [(fq.mp h).1] at c55; exact absurd c55 (by decide)
      refine gh_iconst C 0 dR_follows_76 (by decide) ?_
      refine gh_zret C hQ rfl (by simp) dR_follows_77 ?_
      first | exact ⟨⟨1, rfl, Or.inr rfl, by simp [hz]⟩, rfl⟩ | exact ⟨⟨0, rfl, Or.inl rfl, by simp [hz]⟩, rfl⟩
    ·
      refine gh_aload_n C dR_follows_58 rfl ?_
      refine rw_get C h0 fR_23 rfl dR_follows_59 ?_
      refine gh_aload_n C dR_follows_62 rfl ?_
      refine rw_get C h0 fR_16 rfl dR_follows_63 ?_
      refine gh_iload_n C dR_follows_66 rfl ?_
      refine rw_ild C h0 4 2600 ⟨rfl, rfl, rfl, by decide⟩ (k) rfl (by omega) dR_follows_67 ?_
      refine rw_zld C h0 6 2600 ⟨rfl, rfl, rfl, by decide⟩ (b) hfb (by omega) dR_follows_68 ?_
      refine gh_if_eq C 76 dR_follows_69 (by decide) (fun c69 => ?_) (fun c69 => ?_)
      ·
        have hz : ¬ fol R (kn1 (R.2 6)) k := fun h => by rw [(fq.mp h).2] at c69; exact absurd c69 (by decide)
        refine gh_iconst C 0 dR_follows_76 (by decide) ?_
        refine gh_zret C hQ rfl (by simp) dR_follows_77 ?_
        first | exact ⟨⟨1, rfl, Or.inr rfl, by simp [hz]⟩, rfl⟩ | exact ⟨⟨0, rfl, Or.inl rfl, by simp [hz]⟩, rfl⟩
      ·
        have hz : fol R (kn1 (R.2 6)) k := fq.mpr ⟨(h01 a ha).resolve_left c55, (h01 b hb).resolve_left c69⟩
        refine gh_iconst C 1 dR_follows_72 (by decide) ?_
        refine gh_goto C 77 dR_follows_73 (by decide) ?_
        refine gh_zret C hQ rfl (by simp) dR_follows_77 ?_
        first | exact ⟨⟨1, rfl, Or.inr rfl, by simp [hz]⟩, rfl⟩ | exact ⟨⟨0, rfl, Or.inl rfl, by simp [hz]⟩, rfl⟩
  refine gh_tabOut C 78 dR_follows_6 (tabO (n := 5) (by decide) (fun j hj hx => ?_)) (by decide) ?_
  · have hj9 : j = 0 ∨ j = 1 ∨ j = 2 ∨ j = 3 ∨ j = 4 := by omega
    rcases hj9 with rfl | rfl | rfl | rfl | rfl
    · exact t6_0 hx
    · exact t6_1 hx
    · exact t6_2 hx
    · exact t6_3 hx
    · exact t6_4 hx
  have n01 : R.2 2 k ≠ 0 ∧ R.2 2 k ≠ 1 ∧ R.2 2 k ≠ 4 := ⟨t6_0, t6_1, t6_4⟩
  obtain ⟨⟨a, ha, hfa⟩, -⟩ := hw.2.2.2.1 k hk n01.1 n01.2.1
  have ca : (R.2 3 k).toNatClampNeg = a := by rw [hfa]; exact nI_clamp (by omega)
  have fq : fol R (kn1 (R.2 6)) k ↔ R.2 6 a = 1 := by
    unfold fol kn1
    rw [ca]
    simp [n01.1, n01.2.1, n01.2.2]
  refine gh_aload_n C dR_follows_78 rfl ?_
  refine rw_get C h0 fR_23 rfl dR_follows_79 ?_
  refine gh_aload_n C dR_follows_82 rfl ?_
  refine rw_get C h0 fR_13 rfl dR_follows_83 ?_
  refine gh_iload_n C dR_follows_86 rfl ?_
  refine rw_ild C h0 3 2600 ⟨rfl, rfl, rfl, by decide⟩ (k) rfl (by omega) dR_follows_87 ?_
  refine rw_zld C h0 6 2600 ⟨rfl, rfl, rfl, by decide⟩ (a) hfa (by omega) dR_follows_88 ?_
  refine gh_zret C hQ rfl (h01 a ha) dR_follows_89 ?_
  exact ⟨⟨R.2 6 a, rfl, h01 a ha, fq.symm⟩, rfl⟩
theorem fol_wf {R : SR} {K K1 : Nat → Prop} {k : Nat} (hw : wfK R) (hk : k < R.1 1) (h : ∀ j, j < R.1 1 → K j → K1 j) (hf : fol R K k) : fol R K1 k := by
  have hN := hw.1
  rcases hf with h1 | ⟨h1, h2, h3, h4⟩
  · exact Or.inl h1
  · obtain ⟨⟨a, ha, hfa⟩, hsb⟩ := hw.2.2.2.1 k hk h1 h2
    refine Or.inr ⟨h1, h2, ?_, fun h5 => ?_⟩
    · rw [hfa, nI_clamp (by omega)] at h3 ⊢
      exact h a ha h3
    · obtain ⟨b, hb, hfb⟩ := hsb h5
      have h6 := h4 h5
      rw [hfb, nI_clamp (by omega)] at h6 ⊢
      exact h b hb h6
def inK (R : SR) (f : Nat → Int32) : Prop := b01 (R.1 1) f ∧ (∀ k, k < R.1 1 → f k = 1 → KnR R k) ∧ ∀ k, k < R.1 1 → R.2 5 k ≠ 0 → f k = 1
theorem inK_up {R : SR} {f : Nat → Int32} {k : Nat} (h : inK R f) (hk : KnR R k) : inK R (upd f k 1) := by
  refine ⟨fun j hj => ?_, fun j hj h1 => ?_, fun j hj h1 => ?_⟩
  · by_cases e : j = k
    · right; simp [upd, e]
    · simp only [upd, if_neg e]; exact h.1 j hj
  · by_cases e : j = k
    · rw [e]; exact hk
    · simp only [upd, if_neg e] at h1; exact h.2.1 j hj h1
  · by_cases e : j = k
    · simp [upd, e]
    · simp only [upd, if_neg e]; exact h.2.2 j hj h1
theorem inK_end {R : SR} {f : Nat → Int32} (h : inK R f) (h1 : ∀ k, k < R.1 1 → f k = 1 ∨ ¬ fol R (kn1 f) k) (h2 : ∀ k, k < R.1 7 → ¬ f (R.2 8 k).toNatClampNeg = 1 ∨ f (R.2 9 k).toNatClampNeg = 1) : ∀ k, k < R.1 1 → (f k = 1 ↔ KnR R k) := fun k hk => ⟨h.2.1 k hk, fun hK => hK (kn1 f) ⟨h.2.2, fun j hj hf => (h1 j hj).resolve_right (fun h9 => h9 hf), fun j hj h9 => (h2 j hj).resolve_left (fun h8 => h8 h9)⟩⟩
theorem vz01 {x : Int32} (h : x = 0 ∨ x = 1) : vp_nar .boolean x = x := by
  rcases h with h | h <;> rw [h] <;> rfl
def cpF (i : Nat) (F G : Nat → Int32) : Nat → Int32 := fun k => if k < i then F k else G k
theorem cpF_0 (F G : Nat → Int32) : cpF 0 F G = G := by funext k; simp [cpF]
theorem cpF_s (i : Nat) (F G : Nat → Int32) : upd (cpF i F G) i (F i) = cpF (i + 1) F G := by
  funext k
  simp only [upd, cpF]
  by_cases e : k = i
  · subst e; simp
  · by_cases h : k < i
    · simp [e, h, show k < i + 1 by omega]
    · simp [e, h, show ¬ k < i + 1 by omega]
set_option maxRecDepth 100000 in
set_option maxHeartbeats 4000000 in
theorem r_intrude (l : Launch) (d : gh_D) (g : gh_H) {y : Nat → Nat} {R : SR} (hR : rR g y R) (hw : wfK R) : gh_C l d mR_intrude (rr 1 0 0) [.ref (y 0)] g (fun v g1 => v = none ∧ ∃ f : Nat → Int32, rQ g g1 y (ra R 6 f) ∧ b01 (R.1 1) f ∧ ∀ k, k < R.1 1 → (f k = 1 ↔ KnR R k)) := by
  refine gh_of [some (.ref (y 0)), none, none] (by decide) rfl (Nat.le_of_ble_eq_true rfl) (by simp [Value.category]) (fun z C hQ => ?_)
  show gh_W l d z 0 [some (.ref (y 0)), none, none] [] g 0 0
  have h0 := rQ.rf hR
  have hN := hw.1
  have hN7 := hw.2.1
  have main : ∀ (n : Nat) (f0 : Nat → Int32) (g0 : gh_H) (y2 : Option Value), R.1 1 - cnt (R.1 1) f0 < n → inK R f0 → rQ g g0 y (ra R 6 f0) → gh_W l d z 34 [some (.ref (y 0)), some (.int 1), y2] [] g0 0 0 := by
    intro n
    induction n with
    | zero => intro f0 g0 y2 hn; omega
    | succ n ih =>
      intro f0 g0 y2 hn hi0 hq0
      have loopB : ∀ (c i : Nat) (f : Nat → Int32) (m : Int32) (g1 : gh_H), i + c = R.1 7 → inK R f → rQ g g1 y (ra R 6 f) → ((m = 0 ∧ f = f0 ∧ (∀ k, k < R.1 1 → f0 k = 1 ∨ ¬ fol R (kn1 f0) k) ∧ ∀ k, k < i → ¬ f0 (R.2 8 k).toNatClampNeg = 1 ∨ f0 (R.2 9 k).toNatClampNeg = 1) ∨ (m = 1 ∧ cnt (R.1 1) f0 < cnt (R.1 1) f)) → gh_W l d z 83 [some (.ref (y 0)), some (.int m), some (.int (nI i))] [] g1 0 0 := by
        intro c
        induction c with
        | zero =>
          intro i f m g1 hi hiK h1 hm
          have hi : i = R.1 7 := by omega
          subst hi
          refine gh_iload_n C dR_intrude_83 rfl ?_
          refine gh_aload_n C dR_intrude_84 rfl ?_
          refine rw_get C h1 fR_161 rfl dR_intrude_85 ?_
          refine gh_icmp_ge C 142 dR_intrude_88 (by decide) (fun c88 => ?_) (fun c88 => ?_)
          ·
            refine gh_goto C 30 dR_intrude_142 (by decide) ?_
            refine gh_iload_n C dR_intrude_30 rfl ?_
            refine gh_if_eq C 145 dR_intrude_31 (by decide) (fun c31 => ?_) (fun c31 => ?_)
            ·
              rcases hm with ⟨-, e1, e2, e3⟩ | h9
              · subst e1
                refine gh_vret C hQ rfl dR_intrude_145 ?_
                exact ⟨rfl, f, h1, hiK.1, inK_end hiK e2 e3⟩
              rw [h9.1] at c31
              exact absurd c31 (by decide)
            · rcases hm with h9 | ⟨e1, e2⟩
              · exact absurd h9.1 c31
              · rw [e1]
                have hc := cnt_le (R.1 1) f
                exact ih f g1 _ (by omega) hiK h1
          · exact absurd (nI_le (Nat.le_refl (R.1 7)) (by omega)) c88
        | succ c ihB =>
          intro i f m g1 hi hiK h1 hm
          obtain ⟨⟨a, ha, hfa⟩, b, hb, hfb⟩ := hw.2.2.2.2 i (by omega)
          have ca : (R.2 8 i).toNatClampNeg = a := by rw [hfa]; exact nI_clamp (by omega)
          have cb9 : (R.2 9 i).toNatClampNeg = b := by rw [hfb]; exact nI_clamp (by omega)
          have inc : ∀ (f1 : Nat → Int32) (m1 : Int32) (g2 : gh_H), inK R f1 → rQ g g2 y (ra R 6 f1) → ((m1 = 0 ∧ f1 = f0 ∧ (∀ k, k < R.1 1 → f0 k = 1 ∨ ¬ fol R (kn1 f0) k) ∧ ∀ k, k < i + 1 → ¬ f0 (R.2 8 k).toNatClampNeg = 1 ∨ f0 (R.2 9 k).toNatClampNeg = 1) ∨ (m1 = 1 ∧ cnt (R.1 1) f0 < cnt (R.1 1) f1)) → gh_W l d z 136 [some (.ref (y 0)), some (.int m1), some (.int (nI i))] [] g2 0 0 := by
            intro f1 m1 g2 k1 k2 k3
            refine gh_iinc C (nI (i + 1)) [some (.ref (y 0)), some (.int m1), some (.int (nI (i + 1)))] dR_intrude_136 rfl (gh_inc i) rfl ?_
            refine gh_goto C 83 dR_intrude_139 (by decide) ?_
            exact ihB (i + 1) f1 m1 g2 (by omega) k1 k2 k3
          have stay : (¬ f a = 1 ∨ f b = 1) → ((m = 0 ∧ f = f0 ∧ (∀ k, k < R.1 1 → f0 k = 1 ∨ ¬ fol R (kn1 f0) k) ∧ ∀ k, k < i + 1 → ¬ f0 (R.2 8 k).toNatClampNeg = 1 ∨ f0 (R.2 9 k).toNatClampNeg = 1) ∨ (m = 1 ∧ cnt (R.1 1) f0 < cnt (R.1 1) f)) := fun hx => by
            rcases hm with ⟨e1, e2, e3, e4⟩ | h9
            · refine Or.inl ⟨e1, e2, e3, fun k hk => ?_⟩
              by_cases ek : k = i
              · rw [ek, ca, cb9, ← e2]; exact hx
              · exact e4 k (by omega)
            · exact Or.inr h9
          refine gh_iload_n C dR_intrude_83 rfl ?_
          refine gh_aload_n C dR_intrude_84 rfl ?_
          refine rw_get C h1 fR_161 rfl dR_intrude_85 ?_
          refine gh_icmp_ge C 142 dR_intrude_88 (by decide) (fun c88 => ?_) (fun c88 => ?_)
          · exact absurd c88 (show ¬ nI (R.1 7) ≤ nI i from nI_ge (by omega) (by omega))
          ·
            refine gh_aload_n C dR_intrude_91 rfl ?_
            refine rw_get C h1 fR_23 rfl dR_intrude_92 ?_
            refine gh_aload_n C dR_intrude_95 rfl ?_
            refine rw_get C h1 fR_26 rfl dR_intrude_96 ?_
            refine gh_iload_n C dR_intrude_99 rfl ?_
            refine rw_ild C h1 8 3600 ⟨rfl, rfl, rfl, by decide⟩ (i) rfl (by omega) dR_intrude_100 ?_
            refine rw_zld C h1 6 2600 ⟨rfl, rfl, rfl, by decide⟩ (a) hfa (by omega) dR_intrude_101 ?_
            refine gh_ti (f a) rfl ?_
            refine gh_if_eq C 136 dR_intrude_102 (by decide) (fun c102 => ?_) (fun c102 => ?_)
            · exact inc f m _ hiK h1 (stay (Or.inl (fun h9 => by rw [h9] at c102; exact absurd c102 (by decide))))
            ·
              refine gh_aload_n C dR_intrude_105 rfl ?_
              refine rw_get C h1 fR_23 rfl dR_intrude_106 ?_
              refine gh_aload_n C dR_intrude_109 rfl ?_
              refine rw_get C h1 fR_29 rfl dR_intrude_110 ?_
              refine gh_iload_n C dR_intrude_113 rfl ?_
              refine rw_ild C h1 9 3600 ⟨rfl, rfl, rfl, by decide⟩ (i) rfl (by omega) dR_intrude_114 ?_
              refine rw_zld C h1 6 2600 ⟨rfl, rfl, rfl, by decide⟩ (b) hfb (by omega) dR_intrude_115 ?_
              refine gh_ti (f b) rfl ?_
              refine gh_if_eq C 122 dR_intrude_116 (by decide) (fun c116 => ?_) (fun c116 => ?_)
              ·
                refine gh_aload_n C dR_intrude_122 rfl ?_
                refine rw_get C h1 fR_23 rfl dR_intrude_123 ?_
                refine gh_aload_n C dR_intrude_126 rfl ?_
                refine rw_get C h1 fR_29 rfl dR_intrude_127 ?_
                refine gh_iload_n C dR_intrude_130 rfl ?_
                refine rw_ild C h1 9 3600 ⟨rfl, rfl, rfl, by decide⟩ (i) rfl (by omega) dR_intrude_131 ?_
                refine gh_iconst C 1 dR_intrude_132 (by decide) ?_
                refine rw_zst C h1 6 2600 ⟨rfl, rfl, rfl, by decide⟩ (b) hfb (by omega) rfl dR_intrude_133 (fun g101 h101 => ?_)
                have h101 : rQ g g101 y (ra (ra R 6 f) 6 (upd ((ra R 6 f).2 6) b 1)) := h101
                refine gh_iconst C 1 dR_intrude_134 (by decide) ?_
                refine gh_istore_n C [some (.ref (y 0)), some (.int 1), some (.int (nI i))] dR_intrude_135 rfl (Nat.le_of_ble_eq_true rfl) ?_
                refine inc (upd f b 1) 1 _ (inK_up hiK ?_) (by rw [← ra_ra R 6 f]; exact h101) (Or.inr ⟨rfl, ?_⟩)
                · have h7 := (KnR_cl R).2.2 i (by omega)
                  rw [ca, cb9] at h7
                  exact h7 (hiK.2.1 a ha ((hiK.1 a ha).resolve_left c102))
                · rw [cnt_up hb c116]
                  rcases hm with ⟨-, e2, -⟩ | h9
                  · rw [← e2]; omega
                  · omega
              · refine gh_goto C 136 dR_intrude_119 (by decide) ?_
                exact inc f m _ hiK h1 (stay (Or.inr ((hiK.1 b hb).resolve_left c116)))
      have loopA : ∀ (c i : Nat) (f : Nat → Int32) (m : Int32) (g1 : gh_H), i + c = R.1 1 → inK R f → rQ g g1 y (ra R 6 f) → ((m = 0 ∧ f = f0 ∧ ∀ k, k < i → f0 k = 1 ∨ ¬ fol R (kn1 f0) k) ∨ (m = 1 ∧ cnt (R.1 1) f0 < cnt (R.1 1) f)) → gh_W l d z 38 [some (.ref (y 0)), some (.int m), some (.int (nI i))] [] g1 0 0 := by
        intro c
        induction c with
        | zero =>
          intro i f m g1 hi hiK h1 hm
          have hi : i = R.1 1 := by omega
          subst hi
          refine gh_iload_n C dR_intrude_38 rfl ?_
          refine gh_aload_n C dR_intrude_39 rfl ?_
          refine rw_get C h1 fR_158 rfl dR_intrude_40 ?_
          refine gh_icmp_ge C 81 dR_intrude_43 (by decide) (fun c43 => ?_) (fun c43 => ?_)
          ·
            refine gh_iconst C 0 dR_intrude_81 (by decide) ?_
            refine gh_istore_n C [some (.ref (y 0)), some (.int m), some (.int 0)] dR_intrude_82 rfl (Nat.le_of_ble_eq_true rfl) ?_
            refine loopB (R.1 7) 0 f m _ (by omega) hiK h1 ?_
            rcases hm with ⟨e1, e2, e3⟩ | h9
            · exact Or.inl ⟨e1, e2, e3, fun k hk => absurd hk (Nat.not_lt_zero k)⟩
            · exact Or.inr h9
          · exact absurd (nI_le (Nat.le_refl (R.1 1)) (by omega)) c43
        | succ c ihA =>
          intro i f m g1 hi hiK h1 hm
          have hlt : i < R.1 1 := by omega
          have inc : ∀ (f1 : Nat → Int32) (m1 : Int32) (g2 : gh_H), inK R f1 → rQ g g2 y (ra R 6 f1) → ((m1 = 0 ∧ f1 = f0 ∧ ∀ k, k < i + 1 → f0 k = 1 ∨ ¬ fol R (kn1 f0) k) ∨ (m1 = 1 ∧ cnt (R.1 1) f0 < cnt (R.1 1) f1)) → gh_W l d z 75 [some (.ref (y 0)), some (.int m1), some (.int (nI i))] [] g2 0 0 := by
            intro f1 m1 g2 k1 k2 k3
            refine gh_iinc C (nI (i + 1)) [some (.ref (y 0)), some (.int m1), some (.int (nI (i + 1)))] dR_intrude_75 rfl (gh_inc i) rfl ?_
            refine gh_goto C 38 dR_intrude_78 (by decide) ?_
            exact ihA (i + 1) f1 m1 g2 (by omega) k1 k2 k3
          have stay : (f i = 1 ∨ ¬ fol R (kn1 f) i) → ((m = 0 ∧ f = f0 ∧ ∀ k, k < i + 1 → f0 k = 1 ∨ ¬ fol R (kn1 f0) k) ∨ (m = 1 ∧ cnt (R.1 1) f0 < cnt (R.1 1) f)) := fun hx => by
            rcases hm with ⟨e1, e2, e3⟩ | h9
            · refine Or.inl ⟨e1, e2, fun k hk => ?_⟩
              by_cases ek : k = i
              · rw [ek, ← e2]; exact hx
              · exact e3 k (by omega)
            · exact Or.inr h9
          refine gh_iload_n C dR_intrude_38 rfl ?_
          refine gh_aload_n C dR_intrude_39 rfl ?_
          refine rw_get C h1 fR_158 rfl dR_intrude_40 ?_
          refine gh_icmp_ge C 81 dR_intrude_43 (by decide) (fun c43 => ?_) (fun c43 => ?_)
          · exact absurd c43 (show ¬ nI (R.1 1) ≤ nI i from nI_ge hlt (by omega))
          ·
            refine gh_aload_n C dR_intrude_46 rfl ?_
            refine rw_get C h1 fR_23 rfl dR_intrude_47 ?_
            refine gh_iload_n C dR_intrude_50 rfl ?_
            refine rw_zld C h1 6 2600 ⟨rfl, rfl, rfl, by decide⟩ (i) rfl (by omega) dR_intrude_51 ?_
            refine gh_ti (f i) rfl ?_
            refine gh_if_ne C 75 dR_intrude_52 (by decide) (fun c52 => ?_) (fun c52 => ?_)
            · exact inc f m _ hiK h1 (stay (Or.inl ((hiK.1 i hlt).resolve_left c52)))
            ·
              refine gh_aload_n C dR_intrude_55 rfl ?_
              refine gh_iload_n C dR_intrude_56 rfl ?_
              refine gh_callV C [.int (nI i)] (r_follows l d _ h1.1 i hw hlt hiK.1) lR_164 wR_follows vR_follows h1.1.1 rfl rfl rfl (Nat.le_of_ble_eq_true rfl) ⟨Nat.le_of_ble_eq_true rfl, Nat.le_of_ble_eq_true rfl⟩ (Nat.le_of_ble_eq_true rfl) (Nat.le_of_ble_eq_true rfl) dR_intrude_57 (fun v57 g57 k57 => ?_)
              obtain ⟨⟨x, rfl, x01, hx⟩, e57⟩ := k57
              subst g57
              have hx : x = 1 ↔ fol R (kn1 f) i := hx
              refine gh_if_ne C 66 dR_intrude_60 (by decide) (fun c60 => ?_) (fun c60 => ?_)
              ·
                refine gh_aload_n C dR_intrude_66 rfl ?_
                refine rw_get C h1 fR_23 rfl dR_intrude_67 ?_
                refine gh_iload_n C dR_intrude_70 rfl ?_
                refine gh_iconst C 1 dR_intrude_71 (by decide) ?_
                refine rw_zst C h1 6 2600 ⟨rfl, rfl, rfl, by decide⟩ (i) rfl (by omega) rfl dR_intrude_72 (fun g101 h101 => ?_)
                have h101 : rQ g g101 y (ra (ra R 6 f) 6 (upd ((ra R 6 f).2 6) i 1)) := h101
                refine gh_iconst C 1 dR_intrude_73 (by decide) ?_
                refine gh_istore_n C [some (.ref (y 0)), some (.int 1), some (.int (nI i))] dR_intrude_74 rfl (Nat.le_of_ble_eq_true rfl) ?_
                refine inc (upd f i 1) 1 _ (inK_up hiK ?_) (by rw [← ra_ra R 6 f]; exact h101) (Or.inr ⟨rfl, ?_⟩)
                · exact (KnR_cl R).2.1 i hlt (fol_wf hw hlt hiK.2.1 (hx.mp (x01.resolve_left c60)))
                · rw [cnt_up hlt c52]
                  rcases hm with ⟨-, e2, -⟩ | h9
                  · rw [← e2]; omega
                  · omega
              · refine gh_goto C 75 dR_intrude_63 (by decide) ?_
                exact inc f m _ hiK h1 (stay (Or.inr (fun h9 => by rw [c60] at hx; exact absurd (hx.mpr h9) (by decide))))
      refine gh_iconst C 0 dR_intrude_34 (by decide) ?_
      refine gh_istore_n C [some (.ref (y 0)), some (.int 0), y2] dR_intrude_35 rfl (Nat.le_of_ble_eq_true rfl) ?_
      refine gh_iconst C 0 dR_intrude_36 (by decide) ?_
      refine gh_istore_n C [some (.ref (y 0)), some (.int 0), some (.int 0)] dR_intrude_37 rfl (Nat.le_of_ble_eq_true rfl) ?_
      exact loopA (R.1 1) 0 f0 0 _ (by omega) hi0 hq0 (Or.inl ⟨rfl, rfl, fun k hk => absurd hk (Nat.not_lt_zero k)⟩)
  have loop0 : ∀ (c i : Nat) (g1 : gh_H), i + c = R.1 1 → rQ g g1 y (ra R 6 (cpF i (R.2 5) (R.2 6))) → gh_W l d z 2 [some (.ref (y 0)), some (.int (nI i)), none] [] g1 0 0 := by
    intro c
    induction c with
    | zero =>
      intro i g1 hi h1
      have hi : i = R.1 1 := by omega
      subst hi
      refine gh_iload_n C dR_intrude_2 rfl ?_
      refine gh_aload_n C dR_intrude_3 rfl ?_
      refine rw_get C h1 fR_158 rfl dR_intrude_4 ?_
      refine gh_icmp_ge C 28 dR_intrude_7 (by decide) (fun c7 => ?_) (fun c7 => ?_)
      ·
        refine gh_iconst C 1 dR_intrude_28 (by decide) ?_
        refine gh_istore_n C [some (.ref (y 0)), some (.int 1), none] dR_intrude_29 rfl (Nat.le_of_ble_eq_true rfl) ?_
        refine gh_iload_n C dR_intrude_30 rfl ?_
        refine gh_if_eq C 145 dR_intrude_31 (by decide) (fun c31 => ?_) (fun c31 => ?_)
        · exact absurd c31 (by decide)
        ·
          refine main (R.1 1 + 1) _ _ _ (by omega) ⟨fun k hk => ?_, fun k hk h9 => ?_, fun k hk h9 => ?_⟩ h1
          · simp only [cpF, if_pos hk]; exact hw.2.2.1 k hk
          · simp only [cpF, if_pos hk] at h9; exact (KnR_cl R).1 k hk (by rw [h9]; decide)
          · simp only [cpF, if_pos hk]; exact (hw.2.2.1 k hk).resolve_left h9
      · exact absurd (nI_le (Nat.le_refl (R.1 1)) (by omega)) c7
    | succ c ih =>
      intro i g1 hi h1
      have hlt : i < R.1 1 := by omega
      refine gh_iload_n C dR_intrude_2 rfl ?_
      refine gh_aload_n C dR_intrude_3 rfl ?_
      refine rw_get C h1 fR_158 rfl dR_intrude_4 ?_
      refine gh_icmp_ge C 28 dR_intrude_7 (by decide) (fun c7 => ?_) (fun c7 => ?_)
      · exact absurd c7 (show ¬ nI (R.1 1) ≤ nI i from nI_ge hlt (by omega))
      ·
        refine gh_aload_n C dR_intrude_10 rfl ?_
        refine rw_get C h1 fR_23 rfl dR_intrude_11 ?_
        refine gh_iload_n C dR_intrude_14 rfl ?_
        refine gh_aload_n C dR_intrude_15 rfl ?_
        refine rw_get C h1 fR_19 rfl dR_intrude_16 ?_
        refine gh_iload_n C dR_intrude_19 rfl ?_
        refine rw_zld C h1 5 2600 ⟨rfl, rfl, rfl, by decide⟩ (i) rfl (by omega) dR_intrude_20 ?_
        refine gh_ti (R.2 5 i) rfl ?_
        refine rw_zst C h1 6 2600 ⟨rfl, rfl, rfl, by decide⟩ (i) rfl (by omega) (vz01 (hw.2.2.1 i hlt)) dR_intrude_21 (fun g101 h101 => ?_)
        have h101 : rQ g g101 y (ra (ra R 6 (cpF i (R.2 5) (R.2 6))) 6 (upd ((ra R 6 (cpF i (R.2 5) (R.2 6))).2 6) i (R.2 5 i))) := h101
        refine gh_iinc C (nI (i + 1)) [some (.ref (y 0)), some (.int (nI (i + 1))), none] dR_intrude_22 rfl (gh_inc i) rfl ?_
        refine gh_goto C 2 dR_intrude_25 (by decide) ?_
        exact ih (i + 1) _ (by omega) (by rw [← cpF_s, ← ra_ra R 6 (cpF i (R.2 5) (R.2 6))]; exact h101)
  refine gh_iconst C 0 dR_intrude_0 (by decide) ?_
  refine gh_istore_n C [some (.ref (y 0)), some (.int 0), none] dR_intrude_1 rfl (Nat.le_of_ble_eq_true rfl) ?_
  exact loop0 (R.1 1) 0 g (by omega) (by rw [cpF_0, ra_self]; exact h0)
