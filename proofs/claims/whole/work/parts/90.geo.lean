/-! THE TREE'S GEOMETRY -/
theorem pn_0 (a : Nat) : pn a 0 = 2 * a := by simp [pn]; omega
theorem pn_lf : ∀ l, l < 16 → ∀ h, h ≤ 4 → ∀ a, a < 16 → pn l h = 2 * a → h = 0 ∧ l = a := by decide +kernel
def mt (a l : Nat) : Nat := if a / 2 = l / 2 then 1 else if a / 4 = l / 4 then 2 else if a / 8 = l / 8 then 3 else 4
theorem mt_b : ∀ a, a < 16 → ∀ l, l < 16 → 1 ≤ mt a l ∧ mt a l ≤ 4 := by decide +kernel
theorem mt_s : ∀ a, a < 16 → ∀ l, l < 16 → a ≠ l → sdn a (mt a l - 1) = pn l (mt a l - 1) := by decide +kernel
theorem mt_u : ∀ a, a < 16 → ∀ l, l < 16 → ∀ i, i ≤ 4 → mt a l ≤ i → pn l i = pn a i := by decide +kernel
theorem mt_d : ∀ a, a < 16 → ∀ l, l < 16 → a ≠ l → ∀ i, i < mt a l → ∀ j, j ≤ 4 → pn l i ≠ pn a j := by decide +kernel
theorem mt_w : ∀ D, D ≤ 4 → ∀ a, a < 2 ^ D → ∀ l, l < 2 ^ D → a ≠ l → mt a l ≤ D := by decide +kernel
theorem pn_ch : ∀ l, l < 16 → ∀ h, h < 4 → pn l h = pn l (h + 1) + 2 ^ h ∨ pn l h = pn l (h + 1) - 2 ^ h := by decide +kernel
theorem pn_31 : ∀ l, l < 16 → ∀ h, h ≤ 4 → pn l h < 31 := by decide +kernel
theorem pn_ge : ∀ D, D ≤ 3 → ∀ l, l < 16 → tW D ≤ pn l (D + 1) := by decide +kernel
theorem pn_in : ∀ l, l < 16 → ∀ i, i ≤ 4 → ∀ j, j ≤ 4 → pn l i = pn l j → i = j := by decide +kernel
theorem tW_lf : ∀ D, D ≤ 4 → ∀ l, l < 16 → (2 * l < tW D ↔ l < 2 ^ D) := by decide +kernel
theorem pn_up1 : ∀ i, i < 4 → ∀ l, l < 16 → ∀ a, a < 16 → pn l i = pn a i → pn l (i + 1) = pn a (i + 1) := by decide +kernel
theorem pn_up {l a i : Nat} (hl : l < 16) (ha : a < 16) (h : pn l i = pn a i) : ∀ k, k ≤ 4 → i ≤ k → pn l k = pn a k := by
  intro k hk hik
  induction hik with
  | refl => exact h
  | step _ ih => exact pn_up1 _ (by omega) l hl a ha (ih (by omega))
theorem pn_hh {l a i j : Nat} (hl : l < 16) (ha : a < 16) (hi : i ≤ 4) (hj : j ≤ 4) (h : pn l i = pn a j) : i = j := by
  have h1 := hgt_pn i hi l hl
  rw [h, hgt_pn j hj a ha] at h1
  exact h1.symm
theorem nd_p : ∀ v, v < 31 → pn (v / 2 - (2 ^ hgt v - 1) / 2) (hgt v) = v := by decide +kernel
theorem pth_iff {a i v : Nat} : pth a i v = true ↔ ∃ h, h < i ∧ pn a h = v := by
  unfold pth
  rw [List.any_eq_true]
  constructor
  · rintro ⟨h, h1, h2⟩; exact ⟨h, List.mem_range.mp h1, by simpa using h2⟩
  · rintro ⟨h, h1, h2⟩; exact ⟨h, List.mem_range.mpr h1, by simpa using h2⟩
/-- nodes within a subtree, by range -/
def inR (h v r : Nat) : Prop := v + 1 ≤ r + 2 ^ h ∧ r + 1 ≤ v + 2 ^ h
theorem pn_rg : ∀ l, l < 16 → ∀ h, h ≤ 4 → pn l h + 1 ≤ 2 * l + 2 ^ h ∧ 2 * l + 1 ≤ pn l h + 2 ^ h := by decide +kernel
theorem inR_i {h v r : Nat} (hv : 2 ^ h ≤ v) : (inR h (v + 2 ^ h) r → inR (h + 1) v r) ∧ (inR h (v - 2 ^ h) r → inR (h + 1) v r) := by
  have hp : 2 ^ (h + 1) = 2 * 2 ^ h := by rw [Nat.pow_succ]; omega
  unfold inR
  constructor <;> intro h1 <;> omega
theorem umP_m {u : Int32} {r : Nat} : ∀ i, (r ∈ umP u i ↔ ∃ l, l < i ∧ tb u l = true ∧ r = 2 * l) := by
  intro i
  induction i with
  | zero => simp [umP]
  | succ i ih =>
    rw [show umP u (i + 1) = umP u i ++ (if tb u i = true then [2 * i] else []) from rfl, List.mem_append, ih]
    constructor
    · rintro (⟨l, h1, h2⟩ | h)
      · exact ⟨l, by omega, h2⟩
      · by_cases hb : tb u i = true
        · rw [if_pos hb] at h; exact ⟨i, by omega, hb, by simpa using h⟩
        · rw [if_neg hb] at h; simp at h
    · rintro ⟨l, h1, h2, h3⟩
      by_cases e : l = i
      · subst e; right; rw [if_pos h2]; simp [h3]
      · exact Or.inl ⟨l, by omega, h2, h3⟩
theorem lns_m {u : Int32} {r : Nat} (hr : r < 32) : ∀ i, i ≤ 16 → (tb (lns u i) r = true ↔ ∃ l, l < i ∧ tb u l = true ∧ r = 2 * l) := by
  intro i
  induction i with
  | zero => intro _; rw [show lns u 0 = 0 from rfl, tb_0]; simp
  | succ i ih =>
    intro hi
    have ih := ih (by omega)
    rw [show lns u (i + 1) = if u &&& bitN i = 0 then lns u i else lns u i ||| bitN (2 * i) from rfl]
    by_cases hb : u &&& bitN i = 0
    · rw [if_pos hb, ih]
      have hb2 := (and_bit (by omega)).mp hb
      constructor
      · rintro ⟨l, h1, h2⟩; exact ⟨l, by omega, h2⟩
      · rintro ⟨l, h1, h2, h3⟩
        by_cases e : l = i
        · subst e; rw [hb2] at h2; cases h2
        · exact ⟨l, by omega, h2, h3⟩
    · rw [if_neg hb, tb_or, Bool.or_eq_true, ih, tb_bit (by omega) hr, decide_eq_true_eq]
      have hb2 := (and_bit' (by omega)).mp hb
      constructor
      · rintro (⟨l, h1, h2⟩ | h)
        · exact ⟨l, by omega, h2⟩
        · exact ⟨i, by omega, hb2, h⟩
      · rintro ⟨l, h1, h2, h3⟩
        by_cases e : l = i
        · subst e; exact Or.inr h3
        · exact Or.inl ⟨l, by omega, h2, h3⟩
/-- what holds of every tree: beyond its width it is blank; blank nodes have no unmerged leaves; these lie below, and are not blank -/
def TI (D : Nat) (K U : Nat → Int32) : Prop := D ≤ 4 ∧ ∀ v, v < 31 → (tW D ≤ v → K v = -1) ∧ (K v = -1 → U v = 0) ∧ ∀ l, l < 32 → tb (U v) l = true → l < 16 ∧ 1 ≤ hgt v ∧ pn l (hgt v) = v ∧ K (2 * l) ≠ -1
theorem TI.u0 {D : Nat} {K U : Nat → Int32} (h : TI D K U) {v : Nat} (hv : v < 31) (h0 : hgt v = 0) : U v = 0 := by
  apply i32_ext
  intro i hi
  rw [tb_0]
  cases hb : tb (U v) i with
  | false => rfl
  | true => have := ((h.2 v hv).2.2 i hi hb).2.1; omega
theorem rsv_in {D : Nat} {K U : Nat → Int32} (hT : TI D K U) : ∀ h v r, h ≤ 4 → v < 31 → hgt v = h → r ∈ rsv K U h v → inR h v r ∧ r < 31 ∧ K r ≠ -1 := by
  intro h
  induction h with
  | zero =>
    intro v r _ hv h0 hr
    simp only [rsv] at hr
    by_cases hk : K v = -1
    · rw [if_pos hk] at hr; simp at hr
    · rw [if_neg hk] at hr
      have e : r = v := by simpa using hr
      subst e
      exact ⟨⟨by simp, by simp⟩, hv, hk⟩
  | succ h ih =>
    intro v r h4 hv h0 hr
    rw [show rsv K U (h + 1) v = if K v = -1 then rsv K U h (v + 2 ^ h) ++ rsv K U h (v - 2 ^ h) else v :: umP (U v) 16 from rfl] at hr
    obtain ⟨q1, q2, q3, q4⟩ := chd v hv (by omega)
    rw [h0, Nat.add_sub_cancel] at q1 q2 q3 q4
    have hp9 := p2pos h
    by_cases hk : K v = -1
    · rw [if_pos hk] at hr
      rcases List.mem_append.mp hr with h9 | h9
      · have := ih (v + 2 ^ h) r (by omega) q1 q3 h9
        exact ⟨(inR_i q2).1 this.1, this.2⟩
      · have := ih (v - 2 ^ h) r (by omega) (by omega) q4 h9
        exact ⟨(inR_i q2).2 this.1, this.2⟩
    · rw [if_neg hk] at hr
      rcases List.mem_cons.mp hr with h9 | h9
      · subst h9
        have := p2pos (h + 1)
        exact ⟨⟨by omega, by omega⟩, hv, hk⟩
      · obtain ⟨l, h1, h2, h3⟩ := (umP_m 16).mp h9
        have h5 := (hT.2 v hv).2.2 l (by omega) h2
        have h6 := pn_rg l h5.1 (hgt v) (by omega)
        rw [h5.2.2.1, h0] at h6
        subst h3
        exact ⟨h6, by omega, h5.2.2.2⟩
theorem rsv_le {D : Nat} {K U : Nat → Int32} (hT : TI D K U) : ∀ h v, h ≤ 4 → v < 31 → hgt v = h → (rsv K U h v).length ≤ 2 ^ (h + 1) - 1 := by
  intro h
  induction h with
  | zero =>
    intro v _ hv h0
    simp only [rsv]
    by_cases hk : K v = -1
    · rw [if_pos hk]; simp
    · rw [if_neg hk]; simp
  | succ h ih =>
    intro v h4 hv h0
    rw [show rsv K U (h + 1) v = if K v = -1 then rsv K U h (v + 2 ^ h) ++ rsv K U h (v - 2 ^ h) else v :: umP (U v) 16 from rfl]
    obtain ⟨q1, q2, q3, q4⟩ := chd v hv (by omega)
    rw [h0, Nat.add_sub_cancel] at q1 q2 q3 q4
    have hp9 := p2pos h
    have hp : 2 ^ (h + 1 + 1) = 2 * 2 ^ (h + 1) := by rw [Nat.pow_succ]; omega
    have hp1 : 2 ^ (h + 1) = 2 * 2 ^ h := by rw [Nat.pow_succ]; omega
    have := p2pos h
    by_cases hk : K v = -1
    · rw [if_pos hk, List.length_append]
      have h1 := ih (v + 2 ^ h) (by omega) q1 q3
      have h2 := ih (v - 2 ^ h) (by omega) (by omega) q4
      omega
    · rw [if_neg hk, List.length_cons]
      have key : ∀ i, i ≤ 16 → (umP (U v) i).length + (v + 1 - 2 ^ (h + 1)) / 2 ≤ max i ((v + 1 - 2 ^ (h + 1)) / 2) ∧ (umP (U v) i).length ≤ 2 ^ (h + 1) := by
        have lo : ∀ l, l < 16 → tb (U v) l = true → (v + 1 - 2 ^ (h + 1)) / 2 ≤ l ∧ l + 1 ≤ (v + 1 - 2 ^ (h + 1)) / 2 + 2 ^ (h + 1) := by
          intro l hl hb
          have h5 := (hT.2 v hv).2.2 l (by omega) hb
          have h6 := pn_rg l h5.1 (hgt v) (by omega)
          rw [h5.2.2.1, h0] at h6
          omega
        have key2 : ∀ i, i ≤ 16 → (umP (U v) i).length + (v + 1 - 2 ^ (h + 1)) / 2 ≤ max (min i ((v + 1 - 2 ^ (h + 1)) / 2 + 2 ^ (h + 1))) ((v + 1 - 2 ^ (h + 1)) / 2) := by
          intro i
          induction i with
          | zero => intro _; simp [umP]
          | succ i ihi =>
            intro hi
            have ihi := ihi (by omega)
            rw [show umP (U v) (i + 1) = umP (U v) i ++ (if tb (U v) i = true then [2 * i] else []) from rfl, List.length_append]
            by_cases hb : tb (U v) i = true
            · rw [if_pos hb]
              have := lo i (by omega) hb
              simp only [List.length_cons, List.length_nil]
              omega
            · rw [if_neg hb]
              simp only [List.length_nil]
              omega
        intro i hi
        have := key2 i hi
        omega
      have := (key 16 (Nat.le_refl _)).2
      omega
theorem umP_nd (u : Int32) : ∀ i, (umP u i).Nodup := by
  intro i
  induction i with
  | zero => exact List.nodup_nil
  | succ i ih =>
    rw [show umP u (i + 1) = umP u i ++ (if tb u i = true then [2 * i] else []) from rfl, List.nodup_append]
    refine ⟨ih, ?_, fun x hx y hy => ?_⟩
    · by_cases hb : tb u i = true
      · rw [if_pos hb]; simp
      · rw [if_neg hb]; simp
    · obtain ⟨l, h1, -, h3⟩ := (umP_m i).mp hx
      by_cases hb : tb u i = true
      · rw [if_pos hb] at hy; have : y = 2 * i := by simpa using hy
        omega
      · rw [if_neg hb] at hy; simp at hy
theorem rsv_nd {D : Nat} {K U : Nat → Int32} (hT : TI D K U) : ∀ h v, h ≤ 4 → v < 31 → hgt v = h → (rsv K U h v).Nodup := by
  intro h
  induction h with
  | zero =>
    intro v _ hv h0
    simp only [rsv]
    by_cases hk : K v = -1
    · rw [if_pos hk]; simp
    · rw [if_neg hk]; simp
  | succ h ih =>
    intro v h4 hv h0
    rw [show rsv K U (h + 1) v = if K v = -1 then rsv K U h (v + 2 ^ h) ++ rsv K U h (v - 2 ^ h) else v :: umP (U v) 16 from rfl]
    obtain ⟨q1, q2, q3, q4⟩ := chd v hv (by omega)
    rw [h0, Nat.add_sub_cancel] at q1 q2 q3 q4
    have hp9 := p2pos h
    by_cases hk : K v = -1
    · rw [if_pos hk, List.nodup_append]
      refine ⟨ih (v + 2 ^ h) (by omega) q1 q3, ih (v - 2 ^ h) (by omega) (by omega) q4, fun x hx y hy => ?_⟩
      have h1 := (rsv_in hT h (v + 2 ^ h) x (by omega) q1 q3 hx).1
      have h2 := (rsv_in hT h (v - 2 ^ h) y (by omega) (by omega) q4 hy).1
      unfold inR at h1 h2
      omega
    · rw [if_neg hk, List.nodup_cons]
      refine ⟨fun hm => ?_, umP_nd _ _⟩
      obtain ⟨l, h1, h2, h3⟩ := (umP_m 16).mp hm
      have e := (by decide : ∀ l, l < 16 → hgt (2 * l) = 0) l h1
      rw [← h3, h0] at e
      omega
theorem chw : ∀ D, D ≤ 4 → ∀ v, v < 31 → v < tW D → 0 < hgt v → v + 2 ^ (hgt v - 1) < tW D := by decide +kernel
theorem res_m {D : Nat} {K U : Nat → Int32} (hT : TI D K U) : ∀ h v r, h ≤ 4 → v < 31 → v < tW D → hgt v = h → r < 32 → (tb (res D K U h v) r = true ↔ r ∈ rsv K U h v) := by
  intro h
  induction h with
  | zero =>
    intro v r _ hv hw h0 hr
    rw [show res D K U 0 v = if v < tW D then (if K v = -1 then 0 else bitN v ||| lns (U v) 16) else 0 from rfl]
    simp only [rsv]
    by_cases hk : K v = -1
    · rw [if_pos hk, if_pos hk]; simp [tb_0]
    · rw [if_neg hk, if_neg hk]
      rw [if_pos hw, tb_or, Bool.or_eq_true, tb_bit (by omega) hr, decide_eq_true_eq, lns_m hr 16 (Nat.le_refl _), hT.u0 hv h0]
      simp [tb_0]
  | succ h ih =>
    intro v r h4 hv hw h0 hr
    rw [show res D K U (h + 1) v = if v < tW D then (if K v = -1 then res D K U h (v - 2 ^ h) ||| res D K U h (v + 2 ^ h) else bitN v ||| lns (U v) 16) else 0 from rfl, show rsv K U (h + 1) v = if K v = -1 then rsv K U h (v + 2 ^ h) ++ rsv K U h (v - 2 ^ h) else v :: umP (U v) 16 from rfl]
    obtain ⟨q1, q2, q3, q4⟩ := chd v hv (by omega)
    rw [h0, Nat.add_sub_cancel] at q1 q2 q3 q4
    have hp9 := p2pos h
    by_cases hk : K v = -1
    · have hcw := chw D hT.1 v hv hw (by omega)
      rw [h0, Nat.add_sub_cancel] at hcw
      rw [if_pos hk, if_pos hk, List.mem_append, ← ih (v + 2 ^ h) r (by omega) q1 hcw q3 hr, ← ih (v - 2 ^ h) r (by omega) (by omega) (by omega) q4 hr, if_pos hw, tb_or, Bool.or_eq_true]
      exact Or.comm
    · rw [if_neg hk, if_neg hk]
      rw [if_pos hw, tb_or, Bool.or_eq_true, tb_bit (by omega) hr, decide_eq_true_eq, lns_m hr 16 (Nat.le_refl _), List.mem_cons, umP_m]
theorem rsv_c {K U K1 U1 : Nat → Int32} : ∀ h v, h ≤ 4 → v < 31 → hgt v = h → (∀ r, inR h v r → r < 31 → K r = K1 r ∧ U r = U1 r) → rsv K U h v = rsv K1 U1 h v := by
  intro h
  induction h with
  | zero =>
    intro v _ hv h0 hc
    simp only [rsv]
    rw [(hc v ⟨by simp, by simp⟩ hv).1]
  | succ h ih =>
    intro v h4 hv h0 hc
    obtain ⟨q1, q2, q3, q4⟩ := chd v hv (by omega)
    rw [h0, Nat.add_sub_cancel] at q1 q2 q3 q4
    have hp9 := p2pos h
    have hv9 := hc v ⟨by have := p2pos (h + 1); omega, by have := p2pos (h + 1); omega⟩ hv
    simp only [rsv]
    rw [hv9.1, hv9.2, ih (v + 2 ^ h) (by omega) q1 q3 (fun r hr h31 => hc r ((inR_i q2).1 hr) h31), ih (v - 2 ^ h) (by omega) (by omega) q4 (fun r hr h31 => hc r ((inR_i q2).2 hr) h31)]
/-- a leaf that is not blank is reached by every resolution above it -/
theorem rsv_ex {K U : Nat → Int32} {l : Nat} (hl : l < 16) (hk : K (2 * l) ≠ -1) : ∀ h, h ≤ 4 → ∃ i, i ≤ h ∧ pn l i ∈ rsv K U h (pn l h) ∧ K (pn l i) ≠ -1 ∧ (i = 0 ∨ ¬ tb (U (pn l i)) l = true) := by
  intro h
  induction h with
  | zero =>
    intro _
    refine ⟨0, Nat.le_refl _, ?_, by rw [pn_0]; exact hk, Or.inl rfl⟩
    simp only [rsv]
    rw [if_neg (by rw [pn_0]; exact hk)]
    simp
  | succ h ih =>
    intro h4
    rw [show rsv K U (h + 1) (pn l (h + 1)) = if K (pn l (h + 1)) = -1 then rsv K U h (pn l (h + 1) + 2 ^ h) ++ rsv K U h (pn l (h + 1) - 2 ^ h) else pn l (h + 1) :: umP (U (pn l (h + 1))) 16 from rfl]
    by_cases hb : K (pn l (h + 1)) = -1
    · rw [if_pos hb]
      obtain ⟨i, h1, h2, h3, h5⟩ := ih (by omega)
      refine ⟨i, by omega, List.mem_append.mpr ?_, h3, h5⟩
      rcases pn_ch l hl h (by omega) with e | e
      · rw [e] at h2; exact Or.inl h2
      · rw [e] at h2; exact Or.inr h2
    · rw [if_neg hb]
      by_cases hu : tb (U (pn l (h + 1))) l = true
      · refine ⟨0, by omega, List.mem_cons.mpr (Or.inr ((umP_m 16).mpr ⟨l, hl, hu, pn_0 l⟩)), by rw [pn_0]; exact hk, Or.inl rfl⟩
      · exact ⟨h + 1, Nat.le_refl _, List.mem_cons.mpr (Or.inl rfl), hb, Or.inr hu⟩
