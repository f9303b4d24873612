/-! THE TREE OF A COMMIT, before the path -/
def OI (K ow : Nat → Int32) : Prop := (∀ l, l < 16 → (ow l = -1 ↔ K (2 * l) = -1) ∧ (ow l = -1 ∨ ∃ m, m < 16 ∧ ow l = nI m)) ∧ ∀ l k, l < 16 → k < 16 → ow l = ow k → ow l ≠ -1 → l = k
def PT (K0 U0 ow0 : Nat → Int32) (rm up ad : Int32) (D : Nat) (K U ow : Nat → Int32) : Prop :=
  TI D K U ∧ OI K ow ∧
  (∀ l, l < 16 → K0 (2 * l) ≠ -1 → tb rm l = false → ow l = ow0 l ∧ tb ad l = false ∧ K (2 * l) ≠ -1 ∧ (tb up l = true ∨ K (2 * l) = K0 (2 * l)) ∧ ∀ i, 1 ≤ i → i ≤ 4 → K (pn l i) ≠ -1 → K (pn l i) = K0 (pn l i) ∧ tb up l = false ∧ (tb (U0 (pn l i)) l = true → tb (U (pn l i)) l = true)) ∧
  (∀ l, l < 16 → tb ad l = true → K (2 * l) ≠ -1 ∧ ∀ i, 1 ≤ i → i ≤ 4 → K (pn l i) ≠ -1 → tb (U (pn l i)) l = true) ∧
  (∀ l, l < 16 → K (2 * l) ≠ -1 → (K0 (2 * l) ≠ -1 ∧ tb rm l = false) ∨ tb ad l = true) ∧
  (∀ l, l < 32 → tb up l = true → l < 16 ∧ K0 (2 * l) ≠ -1 ∧ tb rm l = false) ∧ ∀ l, l < 32 → tb ad l = true → l < 16
theorem hgt_tw : ∀ D, D ≤ 4 → ∀ v, v < 31 → v < tW D → hgt v ≤ D := by decide +kernel
theorem shr_lf {K : Nat → Int32} {l : Nat} (hl : K (2 * l) ≠ -1) : ∀ k, l < 2 ^ k → l < 2 ^ shr K k := by
  intro k
  induction k with
  | zero => exact fun h => h
  | succ k ih =>
    intro h
    rw [show shr K (k + 1) = if rbl k K = true then shr K k else k + 1 from rfl]
    by_cases hb : rbl k K = true
    · rw [if_pos hb]
      refine ih ?_
      by_cases h9 : l < 2 ^ k
      · exact h9
      · exact absurd ((rbl_iff k K).mp hb l (by omega) h) hl
    · rw [if_neg hb]; exact h
theorem fbl_sp {D : Nat} {K : Nat → Int32} (h : fbl D K < 2 ^ D) : K (2 * fbl D K) = -1 := by
  unfold fbl at h ⊢
  cases hf : (List.range (2 ^ D)).find? (fun i => K (2 * i) == -1) with
  | none => rw [hf] at h; simp at h
  | some j =>
    have := List.find?_some hf
    simpa using this
theorem PT_ru {D0 D1 : Nat} {K0 U0 ow0 K1 U1 K2 U2 K3 U3 ow NK : Nat → Int32} {rm up : Int32} (hT : TI D0 K0 U0) (hO : OI K0 ow0)
    (hrm : ∀ l, l < 32 → tb rm l = true → l < 16 ∧ K0 (2 * l) ≠ -1) (hup : ∀ l, l < 32 → tb up l = true → l < 16 ∧ K0 (2 * l) ≠ -1 ∧ tb rm l = false ∧ NK l ≠ -1)
    (h1 : ∀ v, v < 31 → K1 v = (if hitI rm D0 16 v = true then -1 else K0 v) ∧ U1 v = if hitI rm D0 16 v = true then 0 else U0 v)
    (hD1 : D1 = shr K1 D0) (h2 : ∀ v, v < 31 → K2 v = (if tW D1 ≤ v then -1 else K1 v) ∧ U2 v = if tW D1 ≤ v then 0 else U1 v)
    (h3 : ∀ v, v < 31 → K3 v = (if v % 2 = 0 ∧ tb up (v / 2) = true then NK (v / 2) else if hitI up D1 16 v = true then -1 else K2 v) ∧ U3 v = if hitI up D1 16 v = true then 0 else U2 v)
    (how : ∀ l, l < 16 → ow l = if tb rm l = true then -1 else ow0 l) : PT K0 U0 ow0 rm up 0 D1 K3 U3 ow := by
  have hD0 := hT.1
  have hle : D1 ≤ D0 := by rw [hD1]; exact shr_le K1 D0
  have hD14 : D1 ≤ 4 := by omega
  -- leaves
  have k1l : ∀ l, l < 16 → K1 (2 * l) = if tb rm l = true then -1 else K0 (2 * l) := fun l hl => by rw [(h1 (2 * l) (by omega)).1, hit_leaf hD0 hl]
  have lw : ∀ l, l < 16 → K0 (2 * l) ≠ -1 → l < 2 ^ D0 := fun l hl hk => by
    by_cases h9 : 2 * l < tW D0
    · exact (tW_lf D0 hD0 l hl).mp h9
    · exact absurd ((hT.2 (2 * l) (by omega)).1 (by omega)) hk
  have k2l : ∀ l, l < 16 → K2 (2 * l) = if tb rm l = true then -1 else K0 (2 * l) := fun l hl => by
    rw [(h2 (2 * l) (by omega)).1, k1l l hl]
    by_cases hw : tW D1 ≤ 2 * l
    · rw [if_pos hw]
      by_cases hr : tb rm l = true
      · rw [if_pos hr]
      · rw [if_neg hr]
        by_cases hk : K0 (2 * l) = -1
        · exact hk.symm
        · have h9 : K1 (2 * l) ≠ -1 := by rw [k1l l hl, if_neg hr]; exact hk
          have h10 := shr_lf h9 D0 (lw l hl hk)
          rw [← hD1] at h10
          exact absurd ((tW_lf D1 hD14 l hl).mpr h10) (by omega)
    · rw [if_neg hw]
  have k3l : ∀ l, l < 16 → K3 (2 * l) = if tb up l = true then NK l else if tb rm l = true then -1 else K0 (2 * l) := fun l hl => by
    rw [(h3 (2 * l) (by omega)).1, show 2 * l / 2 = l by omega, hit_leaf hD14 hl, k2l l hl]
    by_cases hu : tb up l = true
    · rw [if_pos ⟨by omega, hu⟩, if_pos hu]
    · rw [if_neg (fun h => hu h.2), if_neg hu, if_neg hu]
  have k3n : ∀ l, l < 16 → (K3 (2 * l) = -1 ↔ tb rm l = true ∨ K0 (2 * l) = -1) := fun l hl => by
    rw [k3l l hl]
    by_cases hu : tb up l = true
    · have h9 := hup l (by omega) hu
      rw [if_pos hu]
      exact ⟨fun h => absurd h h9.2.2.2, fun h => h.elim (fun h => by rw [h9.2.2.1] at h; cases h) (fun h => absurd h h9.2.1)⟩
    · rw [if_neg hu]
      by_cases hr : tb rm l = true
      · rw [if_pos hr]; simp [hr]
      · rw [if_neg hr]; simp [hr]
  have wlt : ∀ l, l < 16 → K3 (2 * l) ≠ -1 → 2 * l < tW D1 := fun l hl hk => by
    have hn : ¬ (tb rm l = true ∨ K0 (2 * l) = -1) := fun h => hk ((k3n l hl).mpr h)
    have hr : ¬ tb rm l = true := fun h => hn (Or.inl h)
    have hk0 : K0 (2 * l) ≠ -1 := fun h => hn (Or.inr h)
    have h9 : K1 (2 * l) ≠ -1 := by rw [k1l l hl, if_neg hr]; exact hk0
    have h10 := shr_lf h9 D0 (lw l hl hk0)
    rw [← hD1] at h10
    exact (tW_lf D1 hD14 l hl).mpr h10
  refine ⟨⟨hD14, fun v hv => ⟨fun hw => ?_, fun hk => ?_, fun l hl hb => ?_⟩⟩, ⟨fun l hl => ⟨?_, ?_⟩, fun l k hl hk he hn => ?_⟩, fun l hl hk hr => ⟨?_, tb_0 l, ?_, ?_, fun i hi1 hi4 hk9 => ?_⟩, fun l hl h => ?_, fun l hl hk => ?_, fun l hl h => ?_, fun l hl h => ?_⟩
  · rw [(h3 v hv).1]
    by_cases hu : v % 2 = 0 ∧ tb up (v / 2) = true
    · have h9 := hup (v / 2) (by omega) hu.2
      have h10 : K3 (2 * (v / 2)) ≠ -1 := fun h => by
        rcases (k3n (v / 2) h9.1).mp h with h | h
        · rw [h9.2.2.1] at h; cases h
        · exact h9.2.1 h
      have := wlt (v / 2) h9.1 h10
      omega
    · rw [if_neg hu]
      by_cases hh : hitI up D1 16 v = true
      · rw [if_pos hh]
      · rw [if_neg hh, (h2 v hv).1, if_pos hw]
  · rw [(h3 v hv).2]
    by_cases hh : hitI up D1 16 v = true
    · rw [if_pos hh]
    · rw [if_neg hh]
      rw [(h3 v hv).1] at hk
      by_cases hu : v % 2 = 0 ∧ tb up (v / 2) = true
      · rw [if_pos hu] at hk
        exact absurd hk (hup (v / 2) (by omega) hu.2).2.2.2
      · rw [if_neg hu, if_neg hh, (h2 v hv).1] at hk
        rw [(h2 v hv).2]
        by_cases hw : tW D1 ≤ v
        · rw [if_pos hw]
        · rw [if_neg hw] at hk ⊢
          rw [(h1 v hv).1] at hk
          rw [(h1 v hv).2]
          by_cases hr : hitI rm D0 16 v = true
          · rw [if_pos hr]
          · rw [if_neg hr] at hk ⊢
            exact (hT.2 v hv).2.1 hk
  · rw [(h3 v hv).2] at hb
    by_cases hh : hitI up D1 16 v = true
    · rw [if_pos hh, tb_0] at hb; cases hb
    · rw [if_neg hh, (h2 v hv).2] at hb
      by_cases hw : tW D1 ≤ v
      · rw [if_pos hw, tb_0] at hb; cases hb
      · rw [if_neg hw, (h1 v hv).2] at hb
        by_cases hr : hitI rm D0 16 v = true
        · rw [if_pos hr, tb_0] at hb; cases hb
        · rw [if_neg hr] at hb
          have h9 := (hT.2 v hv).2.2 l hl hb
          refine ⟨h9.1, h9.2.1, h9.2.2.1, fun hk => ?_⟩
          rcases (k3n l h9.1).mp hk with h | h
          · have hkv : K0 v ≠ -1 := fun h8 => by rw [(hT.2 v hv).2.1 h8, tb_0] at hb; cases hb
            have hvw : v < tW D0 := by
              by_cases h7 : v < tW D0
              · exact h7
              · exact absurd ((hT.2 v hv).1 (by omega)) hkv
            exact hr (hit_iff.mpr ⟨l, h9.1, h, pth_iff.mpr ⟨hgt v, by have := hgt_tw D0 hD0 v hv hvw; omega, h9.2.2.1⟩⟩)
          · exact h9.2.2.2 h
  · rw [how l hl, k3n l hl]
    by_cases hr : tb rm l = true
    · rw [if_pos hr]; simp [hr]
    · rw [if_neg hr, (hO.1 l hl).1]; simp [hr]
  · rw [how l hl]
    by_cases hr : tb rm l = true
    · rw [if_pos hr]; exact Or.inl rfl
    · rw [if_neg hr]; exact (hO.1 l hl).2
  · rw [how l hl] at he hn
    rw [how k hk] at he
    by_cases hr : tb rm l = true
    · rw [if_pos hr] at hn; exact absurd rfl hn
    · rw [if_neg hr] at he hn
      by_cases hr2 : tb rm k = true
      · rw [if_pos hr2] at he; exact absurd he hn
      · rw [if_neg hr2] at he; exact hO.2 l k hl hk he hn
  · rw [how l hl, if_neg (by rw [hr]; simp)]
  · intro h
    rcases (k3n l hl).mp h with h | h
    · rw [hr] at h; cases h
    · exact hk h
  · rw [k3l l hl]
    by_cases hu : tb up l = true
    · exact Or.inl hu
    · right; rw [if_neg hu, if_neg (by rw [hr]; simp)]
  · have hv := pn_31 l hl i hi4
    rw [(h3 (pn l i) hv).1] at hk9 ⊢
    have hodd : ¬ (pn l i % 2 = 0 ∧ tb up (pn l i / 2) = true) := fun h => by
      have h8 := (hgt_even _ hv).mp h.1
      rw [hgt_pn i hi4 l hl] at h8
      omega
    rw [if_neg hodd] at hk9 ⊢
    by_cases hh : hitI up D1 16 (pn l i) = true
    · rw [if_pos hh] at hk9; exact absurd rfl hk9
    · rw [if_neg hh] at hk9 ⊢
      rw [(h3 (pn l i) hv).2, if_neg hh]
      rw [(h2 (pn l i) hv).1] at hk9 ⊢
      rw [(h2 (pn l i) hv).2]
      by_cases hw : tW D1 ≤ pn l i
      · rw [if_pos hw] at hk9; exact absurd rfl hk9
      · rw [if_neg hw] at hk9 ⊢
        rw [if_neg hw]
        rw [(h1 (pn l i) hv).1] at hk9 ⊢
        rw [(h1 (pn l i) hv).2]
        by_cases hr9 : hitI rm D0 16 (pn l i) = true
        · rw [if_pos hr9] at hk9; exact absurd rfl hk9
        · rw [if_neg hr9, if_neg hr9]
          refine ⟨rfl, ?_, fun h => h⟩
          cases hu : tb up l with
          | false => rfl
          | true =>
            have h8 := hgt_tw D1 hD14 (pn l i) hv (by omega)
            rw [hgt_pn i hi4 l hl] at h8
            exact absurd (hit_iff.mpr ⟨l, hl, hu, pth_iff.mpr ⟨i, by omega, rfl⟩⟩) hh
  · rw [tb_0] at h; cases h
  · left
    have hn : ¬ (tb rm l = true ∨ K0 (2 * l) = -1) := fun h => hk ((k3n l hl).mpr h)
    exact ⟨fun h => hn (Or.inr h), by simpa using fun h => hn (Or.inl h)⟩
  · have h9 := hup l hl h
    exact ⟨h9.1, h9.2.1, h9.2.2.1⟩
  · rw [tb_0] at h; cases h
theorem PT_ad {D : Nat} {K0 U0 ow0 K U ow K1 U1 ow1 : Nat → Int32} {rm up ad k : Int32} (h : PT K0 U0 ow0 rm up ad D K U ow) {m : Nat} (hm : m < 16) (hk : k ≠ -1) (h16 : fbl D K ≠ 16) (hno : ∀ l, l < 16 → ow l ≠ nI m)
    (h1 : ∀ v, v < 31 → K1 v = (if v = 2 * fbl D K then k else K v) ∧ U1 v = if pq (fbl D K) (gD (fbl D K) D) v = true ∧ K1 v ≠ -1 then U v ||| bitN (fbl D K) else if v = 2 * fbl D K then 0 else U v)
    (how : ∀ l, l < 16 → ow1 l = if l = fbl D K then nI m else ow l) : PT K0 U0 ow0 rm up (ad ||| bitN (fbl D K)) (gD (fbl D K) D) K1 U1 ow1 := by
  obtain ⟨hT, hO, hs, ha, hl9, hu, hx⟩ := h
  have hD4 := hT.1
  obtain ⟨a, ea⟩ : ∃ a, a = fbl D K := ⟨_, rfl⟩
  have hle := fbl_le D K
  have hp := p2D hD4
  rw [← ea] at h16 h1 how hle ⊢
  have ha16 : a < 16 := by omega
  have hK : K (2 * a) = -1 := by
    by_cases h9 : a < 2 ^ D
    · rw [ea] at h9 ⊢; exact fbl_sp h9
    · exact (hT.2 (2 * a) (by omega)).1 (by
        have := (tW_lf D hD4 a ha16)
        by_cases h8 : 2 * a < tW D
        · exact absurd (this.mp h8) h9
        · omega)
  obtain ⟨D1, eD1⟩ : ∃ D1, D1 = gD a D := ⟨_, rfl⟩
  have hD1 : D ≤ D1 ∧ D1 ≤ 4 ∧ a < 2 ^ D1 := by
    rw [eD1]; unfold gD
    by_cases h9 : a = 2 ^ D
    · rw [if_pos h9]
      have h8 : D ≠ 4 := fun h => by subst h; exact h16 h9
      have h7 : 2 ^ (D + 1) = 2 * 2 ^ D := by rw [Nat.pow_succ]; omega
      omega
    · rw [if_neg h9]; omega
  rw [← eD1] at h1 ⊢
  have kl : ∀ l, l < 16 → K1 (2 * l) = if l = a then k else K (2 * l) := fun l hl => by
    rw [(h1 (2 * l) (by omega)).1]
    by_cases e : l = a
    · subst e; simp
    · rw [if_neg (by omega), if_neg e]
  have ki : ∀ l i, l < 16 → 1 ≤ i → i ≤ 4 → K1 (pn l i) = K (pn l i) := fun l i hl h1' h4 => by
    rw [(h1 _ (pn_31 l hl i h4)).1, if_neg (fun h9 => by have := pn_lf l hl i h4 a ha16 h9; omega)]
  have hU2a : U (2 * a) = 0 := (hT.2 (2 * a) (by omega)).2.1 hK
  have u0 : U1 (2 * a) = 0 := by
    rw [(h1 (2 * a) (by omega)).2, pq_odd ha16 hD1.2.1 (by omega) (by omega)]
    simp
  have ub : ∀ v l, v < 31 → l < 32 → (tb (U1 v) l = true ↔ (tb (U v) l = true ∨ (l = a ∧ pq a D1 v = true ∧ K v ≠ -1))) := by
    intro v l hv hl
    have hUv := (h1 v hv).2
    by_cases e : v = 2 * a
    · subst e
      rw [u0, hU2a, tb_0]
      simp [hK]
    · have eK : K1 v = K v := by rw [(h1 v hv).1, if_neg e]
      rw [eK, if_neg e] at hUv
      rw [hUv]
      by_cases hc : pq a D1 v = true ∧ K v ≠ -1
      · rw [if_pos hc, tb_or, tb_bit (by omega) hl, Bool.or_eq_true, decide_eq_true_eq]
        exact ⟨fun h => h.imp id (fun h => ⟨h, hc⟩), fun h => h.imp id (fun h => h.1)⟩
      · rw [if_neg hc]
        exact ⟨Or.inl, fun h => h.elim id (fun h => absurd h.2 hc)⟩
  have adb : ∀ l, l < 32 → (tb (ad ||| bitN a) l = true ↔ (tb ad l = true ∨ l = a)) := fun l hl => by
    rw [tb_or, tb_bit (by omega) hl, Bool.or_eq_true, decide_eq_true_eq]
  refine ⟨⟨hD1.2.1, fun v hv => ⟨fun hw => ?_, fun hk9 => ?_, fun l hl hb => ?_⟩⟩, ⟨fun l hl => ⟨?_, ?_⟩, fun l j hl hj he hn => ?_⟩, fun l hl hk0 hr => ?_, fun l hl hb => ?_, fun l hl hk9 => ?_, hu, fun l hl hb => ?_⟩
  · have h2a := (tW_lf D1 hD1.2.1 a ha16).mpr hD1.2.2
    rw [(h1 v hv).1, if_neg (by omega)]
    exact (hT.2 v hv).1 (by have := tW_m hD1.1; omega)
  · have e : v ≠ 2 * a := fun e => by rw [(h1 v hv).1, if_pos e] at hk9; exact hk hk9
    have hk8 : K v = -1 := by rw [(h1 v hv).1, if_neg e] at hk9; exact hk9
    rw [(h1 v hv).2, if_neg (fun h => h.2 hk9), if_neg e]
    exact (hT.2 v hv).2.1 hk8
  · rcases (ub v l hv hl).mp hb with h9 | ⟨e9, h9, h10⟩
    · have h8 := (hT.2 v hv).2.2 l hl h9
      refine ⟨h8.1, h8.2.1, h8.2.2.1, ?_⟩
      rw [kl l h8.1]
      by_cases e : l = a
      · rw [if_pos e]; exact hk
      · rw [if_neg e]; exact h8.2.2.2
    · subst e9
      obtain ⟨j, hj, hp9⟩ := pq_iff.mp h9
      have h8 := hgt_pn (j + 1) (by omega) l ha16
      rw [hp9] at h8
      exact ⟨ha16, by omega, by rw [h8]; exact hp9, by rw [kl l ha16, if_pos rfl]; exact hk⟩
  · rw [how l hl, kl l hl]
    by_cases e : l = a
    · rw [if_pos e, if_pos e]
      exact ⟨fun h => absurd h (nI_ne1 (by omega)), fun h => absurd h hk⟩
    · rw [if_neg e, if_neg e]; exact (hO.1 l hl).1
  · rw [how l hl]
    by_cases e : l = a
    · rw [if_pos e]; exact Or.inr ⟨m, hm, rfl⟩
    · rw [if_neg e]; exact (hO.1 l hl).2
  · rw [how l hl] at he hn
    rw [how j hj] at he
    by_cases e1 : l = a
    · by_cases e2 : j = a
      · omega
      · rw [if_pos e1, if_neg e2] at he; exact absurd he.symm (hno j hj)
    · rw [if_neg e1] at he hn
      by_cases e2 : j = a
      · rw [if_pos e2] at he; exact absurd he (hno l hl)
      · rw [if_neg e2] at he; exact hO.2 l j hl hj he hn
  · obtain ⟨g1, g2, g3, g4, g5⟩ := hs l hl hk0 hr
    have e : l ≠ a := fun e => by rw [e] at g3; exact g3 hK
    refine ⟨by rw [how l hl, if_neg e]; exact g1, ?_, by rw [kl l hl, if_neg e]; exact g3, by rw [kl l hl, if_neg e]; exact g4, fun i hi1 hi4 hk9 => ?_⟩
    · cases hb : tb (ad ||| bitN a) l with
      | false => rfl
      | true =>
        rcases (adb l (by omega)).mp hb with h9 | h9
        · rw [g2] at h9; cases h9
        · exact absurd h9 e
    · rw [ki l i hl hi1 hi4] at hk9 ⊢
      obtain ⟨q1, q2, q3⟩ := g5 i hi1 hi4 hk9
      exact ⟨q1, q2, fun h9 => (ub _ l (pn_31 l hl i hi4) (by omega)).mpr (Or.inl (q3 h9))⟩
  · rcases (adb l (by omega)).mp hb with h9 | h9
    · obtain ⟨q1, q2⟩ := ha l hl h9
      have e : l ≠ a := fun e => by rw [e] at q1; exact q1 hK
      refine ⟨by rw [kl l hl, if_neg e]; exact q1, fun i hi1 hi4 hk9 => ?_⟩
      rw [ki l i hl hi1 hi4] at hk9
      exact (ub _ l (pn_31 l hl i hi4) (by omega)).mpr (Or.inl (q2 i hi1 hi4 hk9))
    · subst h9
      refine ⟨by rw [kl l hl, if_pos rfl]; exact hk, fun i hi1 hi4 hk9 => ?_⟩
      rw [ki l i hl hi1 hi4] at hk9
      refine (ub _ l (pn_31 l hl i hi4) (by omega)).mpr (Or.inr ⟨rfl, pq_iff.mpr ⟨i - 1, ?_, by rw [show i - 1 + 1 = i by omega]⟩, hk9⟩)
      have h8 : pn l i < tW D := by
        by_cases h7 : pn l i < tW D
        · exact h7
        · exact absurd ((hT.2 _ (pn_31 l hl i hi4)).1 (by omega)) hk9
      have h6 := hgt_tw D hD4 _ (pn_31 l hl i hi4) h8
      rw [hgt_pn i hi4 l hl] at h6
      omega
  · rw [kl l hl] at hk9
    by_cases e : l = a
    · exact Or.inr ((adb l (by omega)).mpr (Or.inr e))
    · rw [if_neg e] at hk9
      exact (hl9 l hl hk9).imp id (fun h9 => (adb l (by omega)).mpr (Or.inl h9))
  · rcases (adb l hl).mp hb with h9 | h9
    · exact hx l hl h9
    · omega
