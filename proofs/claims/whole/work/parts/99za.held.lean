/-! what a member holds: all different -/
theorem ndI : ∀ (L M : List Int32), L.Nodup → (∀ x, x ∈ L → x ∈ M) → L.length ≤ M.length := by
  intro L
  induction L with
  | nil => exact fun M _ _ => Nat.zero_le _
  | cons x L ih =>
    intro M hn hs
    have hx := hs x (by simp)
    rw [List.nodup_cons] at hn
    have h1 := ih (M.erase x) hn.2 (fun y hy => (List.mem_erase_of_ne (fun e => hn.1 (by rw [← e]; exact hy))).mpr (hs y (by simp [hy])))
    rw [List.length_erase_of_mem hx] at h1
    have h2 : 0 < M.length := List.length_pos_of_mem hx
    rw [List.length_cons]
    omega
theorem ndE {L M : List Int32} (h1 : L.Nodup) (h2 : M.Nodup) (h : ∀ x, x ∈ L ↔ x ∈ M) : L.length = M.length :=
  Nat.le_antisymm (ndI L M h1 (fun x hx => (h x).mp hx)) (ndI M L h2 (fun x hx => (h x).mpr hx))
theorem hd_l {R : SR} {s : Int32} (h : ¬ s ∈ lst R) : lst (hdR R s) = lst R ++ [s] := by
  unfold hdR
  rw [if_neg h]
  unfold lst
  have e1 : (ri (ra R 47 (upd (R.2 47) (R.1 46) s)) 46 (R.1 46 + 1)).1 46 = R.1 46 + 1 := by simp [ri]
  have e2 : (ri (ra R 47 (upd (R.2 47) (R.1 46) s)) 46 (R.1 46 + 1)).2 47 = upd (R.2 47) (R.1 46) s := by simp [ri, ra]
  rw [e1, e2, List.range_succ, List.map_append]
  congr 1
  · refine List.map_congr_left (fun i hi => ?_)
    rw [List.mem_range] at hi
    simp [upd, show i ≠ R.1 46 by omega]
  · simp [upd]
theorem hF_nd : ∀ (L : List Int32) (R : SR), L.Nodup → (∀ s, s ∈ L → ¬ s ∈ lst R) → lst (hF R L) = lst R ++ L := by
  intro L
  induction L with
  | nil => intro R _ _; simp [hF]
  | cons s L ih =>
    intro R hn hd
    rw [List.nodup_cons] at hn
    have h1 := hd_l (hd s (by simp))
    have h2 := ih (hdR R s) hn.2 (fun t ht => by
      rw [h1, List.mem_append]
      rintro (q | q)
      · exact hd t (by simp [ht]) q
      · have : t = s := by simpa using q
        rw [this] at ht; exact hn.1 ht)
    rw [show hF R (s :: L) = hF (hdR R s) L from rfl, h2, h1]
    simp
theorem c5_m {R : SR} {m : Nat} : ∀ i s, s ∈ c5 R m i ↔ ∃ p, p < i ∧ R.2 36 p = nI m ∧ R.2 41 p = 0 ∧ (s = R.2 37 p ∨ s = R.2 38 p) := by
  intro i s
  induction i with
  | zero => simp [c5]
  | succ i ih =>
    simp only [c5]
    by_cases h : R.2 36 i = nI m ∧ R.2 41 i = 0
    · rw [if_pos h, List.mem_append, ih]
      constructor
      · rintro (⟨p, q1, q2⟩ | q)
        · exact ⟨p, by omega, q2⟩
        · exact ⟨i, by omega, h.1, h.2, by simpa using q⟩
      · rintro ⟨p, q1, q2, q3, q4⟩
        by_cases z : p = i
        · subst z; right; simpa using q4
        · exact Or.inl ⟨p, by omega, q2, q3, q4⟩
    · rw [if_neg h, ih]
      constructor
      · rintro ⟨p, q1, q2⟩; exact ⟨p, by omega, q2⟩
      · rintro ⟨p, q1, q2, q3, q4⟩
        by_cases z : p = i
        · subst z; exact absurd ⟨q2, q3⟩ h
        · exact ⟨p, by omega, q2, q3, q4⟩
theorem ap_nd {L M : List Int32} (h1 : L.Nodup) (h2 : M.Nodup) (h : ∀ x, x ∈ L → ¬ x ∈ M) : (L ++ M).Nodup := by
  rw [List.nodup_append]
  exact ⟨h1, h2, fun x hx y hy e => h x hx (by rw [e]; exact hy)⟩
theorem map_nd {F : Nat → Int32} : ∀ (L : List Nat), L.Nodup → (∀ x y, x ∈ L → y ∈ L → F x = F y → x = y) → (L.map F).Nodup := by
  intro L
  induction L with
  | nil => intro _ _; simp
  | cons x L ih =>
    intro hn hi
    rw [List.nodup_cons] at hn
    rw [List.map_cons, List.nodup_cons]
    refine ⟨fun hm => ?_, ih hn.2 (fun a b ha hb => hi a b (by simp [ha]) (by simp [hb]))⟩
    obtain ⟨y, hy, e⟩ := List.mem_map.mp hm
    have := hi y x (by simp [hy]) (by simp) e
    rw [this] at hy; exact hn.1 hy
theorem j_held {S : SC} {R : SR} (h : J S R) {m : Nat} (hm : m < 16) : R.2 31 m = nI (S.1 1 m) ∧ S.1 1 m ≤ 20 ∧ lst (gaR R m (S.1 1 m)) = cnd R m (S.1 1 m) ∧ (∀ s, s ∈ gA S m ↔ s ∈ cnd R m (S.1 1 m)) ∧ (gA S m).length = (cnd R m (S.1 1 m)).length ∧ (∀ s, s ∈ cnd R m (S.1 1 m) → ∃ k, k < R.1 1 ∧ s = nI k) ∧ (R.2 32 m ≠ 0 → ∃ e, e < 60 ∧ R.2 27 m = nI e) := by
  obtain ⟨⟨⟨n1, n2, n3⟩, ⟨p1, p2⟩, ⟨a3, a4⟩, ⟨a5, a6, a7⟩, a8, a9⟩, hZ, hX, ⟨hT, hO⟩, hM, ⟨hK, hKo⟩, -, ⟨ρ, l1, l2, l3, l4, l5, l6, l7⟩, -, -, -, hF⟩ := h
  obtain ⟨⟨g1, g2, g3, g4, g5, g6⟩, g7⟩ := hM m hm
  obtain ⟨uc, euc⟩ : ∃ uc, uc = S.1 1 m := ⟨_, rfl⟩
  rw [← euc] at g4 g5 g6 ⊢
  have inj : ∀ {p q : Nat}, p < 2600 → q < 2600 → nI p = nI q → p = q := fun hp hq e => (nI_eq (by omega) (by omega)).mp e
  -- packages
  have e5 : gp S m (sP S) = c5 R m (R.1 35) := by
    rw [p1]
    have : ∀ i, i ≤ R.1 35 → gp S m i = c5 R m i := by
      intro i
      induction i with
      | zero => exact fun _ => rfl
      | succ i ih =>
        intro hi
        obtain ⟨⟨k1, k2, k3, k4, k5⟩, -⟩ := hK i (by omega)
        simp only [gp, c5]
        rw [k1, k2, k3, k5, ih (by omega)]
    exact this _ (Nat.le_refl _)
  have pk : ∀ s, s ∈ c5 R m (R.1 35) → ∃ k, k < R.1 1 ∧ s = nI k ∧ (ρ k = 3 ∨ (ρ k = 4 ∧ ∃ p, p < R.1 35 ∧ R.2 36 p = nI m ∧ R.2 41 p = 0 ∧ s = R.2 38 p)) := fun s hs => by
    obtain ⟨p, q1, q2, q3, q4⟩ := (c5_m _ s).mp hs
    obtain ⟨-, -, ⟨f, f1, f2, f3⟩, -⟩ := hK p q1
    have hr := l3 p f q1 f2 f1
    rcases q4 with q4 | q4
    · exact ⟨f, by omega, by rw [q4, f2], Or.inl hr.1⟩
    · exact ⟨f + 1, f1, by rw [q4, f3], Or.inr ⟨hr.2, p, q1, q2, q3, q4⟩⟩
  have nd5 : ∀ i, i ≤ R.1 35 → (c5 R m i).Nodup := by
    intro i
    induction i with
    | zero => intro _; simp [c5]
    | succ i ih =>
      intro hi
      simp only [c5]
      by_cases w : R.2 36 i = nI m ∧ R.2 41 i = 0
      · rw [if_pos w]
        obtain ⟨-, -, ⟨f, f1, f2, f3⟩, -⟩ := hK i (by omega)
        refine ap_nd (ih (by omega)) ?_ (fun x hx hy => ?_)
        · rw [f2, f3]
          simp only [List.nodup_cons, List.mem_cons, List.not_mem_nil, or_false, not_false_eq_true, List.nodup_nil, and_true]
          exact fun q => by have := inj (by omega) (by omega) q; omega
        · obtain ⟨p, q1, q2, q3, q4⟩ := (c5_m _ x).mp hx
          obtain ⟨-, -, ⟨f', v1, v2, v3⟩, -⟩ := hK p (by omega)
          obtain ⟨f9, g9, z1, z2, z3, z4⟩ := hKo p i q1 (by omega)
          rw [v3] at z1
          rw [f2] at z2
          have y1 := inj (by omega) (by omega) z1
          have y2 := inj (by omega) (by omega) z2
          have hy2 : x = nI f ∨ x = nI (f + 1) := by rw [f2, f3] at hy; simpa using hy
          rcases q4 with q4 | q4
          · rw [q4, v2] at hy2
            rcases hy2 with q | q <;> have := inj (by omega) (by omega) q <;> omega
          · rw [q4, v3] at hy2
            rcases hy2 with q | q <;> have := inj (by omega) (by omega) q <;> omega
      · rw [if_neg w]; exact ih (by omega)
  have l0 : lst (ri R 46 0) = [] := by simp [lst, ri]
  have ecnd : cnd R m uc = c1 R m ++ c2 R m ++ c3 R m 31 ++ c4 R m uc ++ c5 R m (R.1 35) := rfl
  have egA : gA S m = gl1 (S.2.1 2 m) ++ gl2 (S.2.2 0 m) 5 ++ gl3 (S.2.2 1 m) uc ++ c5 R m (R.1 35) := by unfold gA gl; rw [e5, ← euc]
  have fin : (cnd R m uc).Nodup → lst (gaR R m uc) = cnd R m uc := fun hn => by
    unfold gaR
    rw [hF_nd (cnd R m uc) (ri R 46 0) hn (fun s _ => by rw [l0]; simp), l0]; rfl
  rcases g7 with ⟨u1, u2, u3, u4, u5, u6, u7, u8⟩ | ⟨e, l, i1, i2, i3, i4, i5, i6, i7, i8, i9, i10, i11, i12⟩
  · have z1 : c1 R m = [] := by unfold c1; rw [if_pos u4]
    have z2 : c2 R m = [] := by unfold c2; rw [if_pos u5]
    have z3 : c3 R m 31 = [] := by
      unfold c3
      rw [List.filter_eq_nil_iff.mpr (fun v hv => by rw [List.mem_range] at hv; simp [u7 v hv])]; rfl
    have z0 : uc = 0 := by rw [euc]; exact u8
    have z4 : c4 R m uc = [] := by rw [z0]; rfl
    have y1 : gl1 (S.2.1 2 m) = [] := by unfold gl1; rw [if_pos u3]
    have y2 : gl2 (S.2.2 0 m) 5 = [] := by
      unfold gl2
      rw [List.filter_eq_nil_iff.mpr (fun v hv => by rw [List.mem_range] at hv; simp [u6 v hv])]; rfl
    have y3 : gl3 (S.2.2 1 m) uc = [] := by rw [z0]; rfl
    have ec : cnd R m uc = c5 R m (R.1 35) := by rw [ecnd, z1, z2, z3, z4]; rfl
    have eg : gA S m = c5 R m (R.1 35) := by rw [egA, y1, y2, y3]; rfl
    refine ⟨g4, g5, fin (by rw [ec]; exact nd5 _ (Nat.le_refl _)), fun s => by rw [ec, eg], by rw [ec, eg], fun s hs => ?_, fun q => absurd u4 q⟩
    rw [ec] at hs
    obtain ⟨k, k1, k2, -⟩ := pk s hs
    exact ⟨k, k1, k2⟩
  · obtain ⟨D, -, hTI, -, hkb, hinj⟩ := hT e i2
    obtain ⟨-, sb, sb1, sb2⟩ := hX e i2
    have hcl : (R.2 27 m).toNatClampNeg = e := by rw [i1]; exact nI_clamp (by omega)
    -- tree keys
    have tk9 : ∀ v, v < 31 → rK R e v ≠ -1 → ∃ k, k < R.1 1 ∧ rK R e v = nI k ∧ (ρ k = 1 ∨ ρ k = 4 ∨ ρ k = 5) := fun v hv hn => by
      obtain ⟨k, k1, k2⟩ := (hkb v hv).resolve_left hn
      exact ⟨k, k1, k2, l2 e v k i2 hv k2 k1⟩
    have hlk : rK R e (2 * l) ≠ -1 := fun q => by
      obtain ⟨D9, -, -, hOI, -⟩ := hT e i2
      have := ((hOI.1 l i3).1).mpr q
      rw [i5] at this; exact nI_ne1 (by omega) this
    have z1 : c1 R m = [nI sb] := by unfold c1; rw [if_neg (by rw [i7]; decide), hcl, sb2]
    have y1 : gl1 (S.2.1 2 m) = [nI sb] := by unfold gl1; rw [i6, sb2, if_neg (nI_ne1 (by omega))]
    have z2 : c2 R m = [rK R e (2 * l)] := by unfold c2; rw [i8, if_neg hlk]
    have m3 : ∀ s, s ∈ c3 R m 31 ↔ ∃ i, 1 ≤ i ∧ i ≤ 4 ∧ R.2 33 (31 * m + pn l i) ≠ -1 ∧ s = rK R e (pn l i) := fun s => by
      unfold c3
      rw [List.mem_map]
      constructor
      · rintro ⟨v, hv, es⟩
        rw [List.mem_filter, List.mem_range] at hv
        have hn : R.2 33 (31 * m + v) ≠ -1 := by simpa using hv.2
        by_cases q : ∃ i, 1 ≤ i ∧ i ≤ 4 ∧ v = pn l i
        · obtain ⟨i, h1, h4, hv9⟩ := q
          subst hv9
          exact ⟨i, h1, h4, hn, by rw [← es]; exact ((i10 i h1 h4).2.1).resolve_left hn⟩
        · exact absurd (i11 v hv.1 (fun i h1 h4 w => q ⟨i, h1, h4, w⟩)) hn
      · rintro ⟨i, h1, h4, hn, es⟩
        refine ⟨pn l i, List.mem_filter.mpr ⟨List.mem_range.mpr (pn_31 l i3 i h4), by simpa using hn⟩, ?_⟩
        rw [es]; exact ((i10 i h1 h4).2.1).resolve_left hn
    have nd3 : (c3 R m 31).Nodup := by
      unfold c3
      refine map_nd _ (List.Pairwise.filter _ List.nodup_range) (fun v w hv hw he => ?_)
      rw [List.mem_filter, List.mem_range] at hv hw
      have hnv : R.2 33 (31 * m + v) ≠ -1 := by simpa using hv.2
      have hnw : R.2 33 (31 * m + w) ≠ -1 := by simpa using hw.2
      have get : ∀ u, u < 31 → R.2 33 (31 * m + u) ≠ -1 → R.2 33 (31 * m + u) = rK R e u := fun u hu hn => by
        by_cases q : ∃ i, 1 ≤ i ∧ i ≤ 4 ∧ u = pn l i
        · obtain ⟨i, h1, h4, hv9⟩ := q
          subst hv9; exact ((i10 i h1 h4).2.1).resolve_left hn
        · exact absurd (i11 u hu (fun i h1 h4 w => q ⟨i, h1, h4, w⟩)) hn
      rw [get v hv.1 hnv, get w hw.1 hnw] at he
      exact hinj v w hv.1 hw.1 he (by rw [← get v hv.1 hnv]; exact hnv)
    have c3k : ∀ s, s ∈ c3 R m 31 → ∃ v, v < 31 ∧ s = rK R e v ∧ s ≠ -1 ∧ v ≠ 2 * l := fun s hs => by
      obtain ⟨i, h1, h4, hn, es⟩ := (m3 s).mp hs
      refine ⟨pn l i, pn_31 l i3 i h4, es, ?_, fun q => by have := pn_lf l i3 i h4 l i3 q; omega⟩
      rw [es, ← ((i10 i h1 h4).2.1).resolve_left hn]; exact hn
    have m4 : ∀ s, s ∈ c4 R m uc → ∃ u k, k < uc ∧ u < R.1 1 ∧ s = nI u ∧ ρ u = 5 ∧ s = R.2 34 (20 * m + k) := fun s hs => by
      unfold c4 at hs
      obtain ⟨k, hk, es⟩ := List.mem_map.mp hs
      rw [List.mem_range] at hk
      obtain ⟨u, u1, u2, u3⟩ := l4 m k hm (by rw [← euc]; exact hk)
      exact ⟨u, k, hk, u1, by rw [← es, u2], u3, es.symm⟩
    have nd4 : (c4 R m uc).Nodup := by
      unfold c4
      refine map_nd _ List.nodup_range (fun v w hv hw he => ?_)
      rw [List.mem_range] at hv hw
      by_cases q : v = w
      · exact q
      · exfalso
        rcases Nat.lt_or_gt_of_ne q with q | q
        · exact l7 m v w hm q (by rw [← euc]; exact hw) he
        · exact l7 m w v hm q (by rw [← euc]; exact hv) he.symm
    have n4t : ∀ v s, v < 31 → s ∈ c4 R m uc → rK R e v ≠ s := fun v s hv hs q => by
      obtain ⟨u, k, hk, -, -, -, es⟩ := m4 s hs
      exact l6 m k e e v hm (by rw [← euc]; exact hk) i1 i2 (Nat.le_refl _) hv (by rw [q]; exact es)
    have n5t : ∀ v s, v < 31 → rK R e v ≠ -1 → s ∈ c5 R m (R.1 35) → rK R e v ≠ s := fun v s hv hn hs q => by
      obtain ⟨k, k1, k2, k3⟩ := pk s hs
      obtain ⟨k', v1, v2, v3⟩ := tk9 v hv hn
      rw [v2, k2] at q
      have := inj (by omega) (by omega) q
      subst this
      rcases k3 with k3 | ⟨k3, p, q1, q2, q3, q4⟩
      · omega
      · obtain ⟨f, f1, f2⟩ := l5 e v p i2 hv q1 (by rw [v2, ← q4, k2])
        have := hF.1 m e p f hm i1 i2 q1 q2 q3 f2 (by omega)
        omega
    -- the lists
    have d12 : ∀ x, x ∈ c1 R m → ¬ x ∈ c2 R m := fun x hx hy => by
      rw [z1] at hx
      rw [z2] at hy
      have e1 : x = nI sb := by simpa using hx
      have e2 : x = rK R e (2 * l) := by simpa using hy
      obtain ⟨k, k1, k2, k3⟩ := tk9 (2 * l) (by omega) hlk
      rw [e1, k2] at e2
      have := inj (by omega) (by omega) e2
      subst this
      have := l1 e sb i2 sb2 sb1
      omega
    have A1 : (c1 R m ++ c2 R m).Nodup := ap_nd (by rw [z1]; simp) (by rw [z2]; simp) d12
    have A2 : (c1 R m ++ c2 R m ++ c3 R m 31).Nodup := ap_nd A1 nd3 (fun x hx hy => by
      obtain ⟨v, v1, v2, v3, v4⟩ := c3k x hy
      rcases List.mem_append.mp hx with q | q
      · rw [z1] at q
        have e1 : x = nI sb := by simpa using q
        obtain ⟨k, k1, k2, k3⟩ := tk9 v v1 (by rw [← v2]; exact v3)
        rw [e1, k2] at v2
        have := inj (by omega) (by omega) v2
        subst this
        have := l1 e sb i2 sb2 sb1
        omega
      · rw [z2] at q
        have e1 : x = rK R e (2 * l) := by simpa using q
        exact v4 (hinj v (2 * l) v1 (by omega) (by rw [← v2, e1]) (by rw [← v2]; exact v3)))
    have tree2 : ∀ x, x ∈ c1 R m ++ c2 R m ++ c3 R m 31 → x = nI sb ∨ ∃ v, v < 31 ∧ x = rK R e v ∧ rK R e v ≠ -1 := fun x hx => by
      rcases List.mem_append.mp hx with q | q
      · rcases List.mem_append.mp q with q | q
        · rw [z1] at q; exact Or.inl (by simpa using q)
        · rw [z2] at q; exact Or.inr ⟨2 * l, by omega, by simpa using q, hlk⟩
      · obtain ⟨v, v1, v2, v3, v4⟩ := c3k x q
        exact Or.inr ⟨v, v1, v2, by rw [← v2]; exact v3⟩
    have A3 : (c1 R m ++ c2 R m ++ c3 R m 31 ++ c4 R m uc).Nodup := ap_nd A2 nd4 (fun x hx hy => by
      rcases tree2 x hx with q | ⟨v, v1, v2, v3⟩
      · obtain ⟨u, k, -, u1, u2, u3, -⟩ := m4 x hy
        rw [q] at u2
        have := inj (by omega) (by omega) u2
        subst this
        have := l1 e sb i2 sb2 sb1
        omega
      · exact n4t v x v1 hy v2.symm)
    have A4 : (cnd R m uc).Nodup := by
      rw [ecnd]
      refine ap_nd A3 (nd5 _ (Nat.le_refl _)) (fun x hx hy => ?_)
      rcases List.mem_append.mp hx with q | q
      · rcases tree2 x q with q | ⟨v, v1, v2, v3⟩
        · obtain ⟨k, k1, k2, k3⟩ := pk x hy
          rw [q] at k2
          have := inj (by omega) (by omega) k2
          subst this
          have := l1 e sb i2 sb2 sb1
          rcases k3 with k3 | k3
          · omega
          · have := k3.1; omega
        · exact n5t v x v1 v3 hy v2.symm
      · obtain ⟨u, k, -, u1, u2, u3, -⟩ := m4 x q
        obtain ⟨k', k1, k2, k3⟩ := pk x hy
        rw [u2] at k2
        have := inj (by omega) (by omega) k2
        subst this
        rcases k3 with k3 | k3
        · omega
        · have := k3.1; omega
    -- the class's row of keys
    have g2m : ∀ s, s ∈ gl2 (S.2.2 0 m) 5 ↔ s ∈ c2 R m ++ c3 R m 31 := fun s => by
      unfold gl2
      rw [List.mem_map, List.mem_append, z2, m3]
      constructor
      · rintro ⟨i, hi, es⟩
        rw [List.mem_filter, List.mem_range] at hi
        have hn : S.2.2 0 m i ≠ -1 := by simpa using hi.2
        by_cases z : i = 0
        · left; rw [← es, z, i9, i8]; simp
        · right
          have h9 := i10 i (by omega) (by omega)
          rw [h9.1] at hn es
          exact ⟨i, by omega, by omega, hn, by rw [← es]; exact h9.2.1.resolve_left hn⟩
      · rintro (q | ⟨i, h1, h4, hn, es⟩)
        · have e1 : s = rK R e (2 * l) := by simpa using q
          refine ⟨0, List.mem_filter.mpr ⟨List.mem_range.mpr (by decide), ?_⟩, by rw [i9, i8]; exact e1.symm⟩
          simp only [decide_eq_true_eq]; rw [i9, i8]; exact hlk
        · have h9 := i10 i h1 h4
          refine ⟨i, List.mem_filter.mpr ⟨List.mem_range.mpr (by omega), ?_⟩, by rw [h9.1, es]; exact h9.2.1.resolve_left hn⟩
          simp only [decide_eq_true_eq]; rw [h9.1]; exact hn
    have nd2 : (gl2 (S.2.2 0 m) 5).Nodup := by
      unfold gl2
      refine map_nd _ (List.Pairwise.filter _ List.nodup_range) (fun i j hi hj he => ?_)
      rw [List.mem_filter, List.mem_range] at hi hj
      have hni : S.2.2 0 m i ≠ -1 := by simpa using hi.2
      have hnj : S.2.2 0 m j ≠ -1 := by simpa using hj.2
      have get : ∀ i, i < 5 → S.2.2 0 m i ≠ -1 → S.2.2 0 m i = rK R e (pn l i) := fun i hi hn => by
        by_cases z : i = 0
        · rw [z, pn_0, i9, i8]
        · have h9 := i10 i (by omega) (by omega)
          rw [h9.1] at hn ⊢; exact h9.2.1.resolve_left hn
      rw [get i hi.1 hni, get j hj.1 hnj] at he
      exact pn_in l i3 i (by omega) j (by omega) (hinj _ _ (pn_31 l i3 i (by omega)) (pn_31 l i3 j (by omega)) he (by rw [← get i hi.1 hni]; exact hni))
    have l23 : (gl2 (S.2.2 0 m) 5).length = (c2 R m ++ c3 R m 31).length := by
      refine ndE nd2 ?_ g2m
      rw [List.append_assoc] at A2
      exact (List.nodup_append.mp A2).2.1
    have e43 : gl3 (S.2.2 1 m) uc = c4 R m uc := by
      unfold gl3 c4
      refine List.map_congr_left (fun k hk => ?_)
      rw [List.mem_range] at hk
      exact g6 k hk
    refine ⟨g4, g5, fin A4, fun s => ?_, ?_, fun s hs => ?_, fun _ => ⟨e, by omega, i1⟩⟩
    · rw [egA, ecnd, y1, z1, e43]
      simp only [List.mem_append]
      rw [g2m, List.mem_append]
      constructor
      · rintro (((q | (q | q)) | q) | q)
        · exact Or.inl (Or.inl (Or.inl (Or.inl q)))
        · exact Or.inl (Or.inl (Or.inl (Or.inr q)))
        · exact Or.inl (Or.inl (Or.inr q))
        · exact Or.inl (Or.inr q)
        · exact Or.inr q
      · rintro ((((q | q) | q) | q) | q)
        · exact Or.inl (Or.inl (Or.inl q))
        · exact Or.inl (Or.inl (Or.inr (Or.inl q)))
        · exact Or.inl (Or.inl (Or.inr (Or.inr q)))
        · exact Or.inl (Or.inr q)
        · exact Or.inr q
    · rw [egA, ecnd, y1, z1, e43]
      simp only [List.length_append] at l23 ⊢
      omega
    · rw [ecnd] at hs
      rcases List.mem_append.mp hs with q | q
      · rcases List.mem_append.mp q with q | q
        · rcases tree2 s q with q | ⟨v, v1, v2, v3⟩
          · exact ⟨sb, sb1, q⟩
          · obtain ⟨k, k1, k2, -⟩ := tk9 v v1 v3
            exact ⟨k, k1, by rw [v2, k2]⟩
        · obtain ⟨u, k, -, u1, u2, -⟩ := m4 s q
          exact ⟨u, u1, u2⟩
      · obtain ⟨k, k1, k2, -⟩ := pk s q
        exact ⟨k, k1, k2⟩
