/-! leafNodes, resolutions, the lowest node that counts, shrinking -/
def bitN (v : Nat) : Int32 := (1 : Int32) <<< (nI v &&& 31)
def lns (x : Int32) : Nat → Int32
  | 0 => 0
  | i + 1 => if x &&& bitN i = 0 then lns x i else lns x i ||| bitN (2 * i)
set_option maxRecDepth 100000 in
set_option maxHeartbeats 4000000 in
theorem c_leafNodes (l : Launch) (d : gh_D) (g : gh_H) (x : Int32) : gh_C l d mG_leafNodes (rr 1 0 0) [.int x] g (fun v g1 => v = some (.int (lns x 16)) ∧ g1 = g) := by
  refine gh_of [some (.int x), none, none] (by decide) rfl (Nat.le_of_ble_eq_true rfl) (by simp [Value.category]) (fun z C hQ => ?_)
  show gh_W l d z 0 [some (.int x), none, none] [] g 0 0
  have loop : ∀ (c i : Nat), i + c = 16 → gh_W l d z 4 [some (.int x), some (.int (lns x i)), some (.int (nI i))] [] g 0 0 := by
    intro c
    induction c with
    | zero =>
      intro i hi
      have hi : i = 16 := by omega
      subst hi
      refine gh_iload_n C dG_leafNodes_4 rfl ?_
      refine gh_bipush C 16 dG_leafNodes_5 (by decide) ?_
      refine gh_icmp_ge C 35 dG_leafNodes_7 (by decide) (fun c7 => ?_) (fun c7 => ?_)
      ·
        refine gh_iload_n C dG_leafNodes_35 rfl ?_
        refine gh_iret C hQ rfl dG_leafNodes_36 ?_
        exact ⟨rfl, rfl⟩
      · exact absurd (show (16 : Int32) ≤ nI 16 from nI_le (Nat.le_refl 16) (by decide)) c7
    | succ c ih =>
      intro i hi
      refine gh_iload_n C dG_leafNodes_4 rfl ?_
      refine gh_bipush C 16 dG_leafNodes_5 (by decide) ?_
      refine gh_icmp_ge C 35 dG_leafNodes_7 (by decide) (fun c7 => ?_) (fun c7 => ?_)
      · exact absurd c7 (show ¬ nI 16 ≤ nI i from nI_ge (by omega) (by decide))
      ·
        refine gh_iload_n C dG_leafNodes_10 rfl ?_
        refine gh_iload_n C dG_leafNodes_11 rfl ?_
        refine gh_callS C [.int (nI i)] (c_bit l d _ (nI i)) lG_239 wG_bit sG_bit rfl rfl (Nat.le_of_ble_eq_true rfl) ⟨Nat.le_of_ble_eq_true rfl, Nat.le_of_ble_eq_true rfl⟩ (Nat.le_of_ble_eq_true rfl) (Nat.le_of_ble_eq_true rfl) dG_leafNodes_12 (fun v12 g12 h12 => ?_)
        obtain ⟨rfl, rfl⟩ := h12
        refine gh_iand C dG_leafNodes_15 ?_
        refine gh_if_eq C 29 dG_leafNodes_16 (by decide) (fun c16 => ?_) (fun c16 => ?_)
        · have e : lns x (i + 1) = lns x i := if_pos c16
          rw [← e]
          refine gh_iinc C (nI (i + 1)) [some (.int x), some (.int (lns x (i + 1))), some (.int (nI (i + 1)))] dG_leafNodes_29 rfl (gh_inc i) rfl ?_
          refine gh_goto C 4 dG_leafNodes_32 (by decide) ?_
          exact ih (i + 1) (by omega)
        ·
          refine gh_iload_n C dG_leafNodes_19 rfl ?_
          refine gh_iload_n C dG_leafNodes_20 rfl ?_
          refine gh_callS C [.int (nI i)] (c_leafNode l d _ (nI i)) lG_233 wG_leafNode sG_leafNode rfl rfl (Nat.le_of_ble_eq_true rfl) ⟨Nat.le_of_ble_eq_true rfl, Nat.le_of_ble_eq_true rfl⟩ (Nat.le_of_ble_eq_true rfl) (Nat.le_of_ble_eq_true rfl) dG_leafNodes_21 (fun v21 g21 h21 => ?_)
          obtain ⟨rfl, rfl⟩ := h21
          rw [two_n i]
          refine gh_callS C [.int (nI (2 * i))] (c_bit l d _ (nI (2 * i))) lG_239 wG_bit sG_bit rfl rfl (Nat.le_of_ble_eq_true rfl) ⟨Nat.le_of_ble_eq_true rfl, Nat.le_of_ble_eq_true rfl⟩ (Nat.le_of_ble_eq_true rfl) (Nat.le_of_ble_eq_true rfl) dG_leafNodes_24 (fun v24 g24 h24 => ?_)
          obtain ⟨rfl, rfl⟩ := h24
          refine gh_ior C dG_leafNodes_27 ?_
          refine gh_istore_n C [some (.int x), some (.int ((lns x i) ||| (bitN (2 * i)))), some (.int (nI i))] dG_leafNodes_28 rfl (Nat.le_of_ble_eq_true rfl) ?_
          have e : lns x (i + 1) = lns x i ||| bitN (2 * i) := if_neg c16
          rw [← e]
          refine gh_iinc C (nI (i + 1)) [some (.int x), some (.int (lns x (i + 1))), some (.int (nI (i + 1)))] dG_leafNodes_29 rfl (gh_inc i) rfl ?_
          refine gh_goto C 4 dG_leafNodes_32 (by decide) ?_
          exact ih (i + 1) (by omega)
  refine gh_iconst C 0 dG_leafNodes_0 (by decide) ?_
  refine gh_istore_n C [some (.int x), some (.int 0), none] dG_leafNodes_1 rfl (Nat.le_of_ble_eq_true rfl) ?_
  refine gh_iconst C 0 dG_leafNodes_2 (by decide) ?_
  refine gh_istore_n C [some (.int x), some (.int 0), some (.int 0)] dG_leafNodes_3 rfl (Nat.le_of_ble_eq_true rfl) ?_
  exact loop 16 0 (by omega)
def res (D : Nat) (K U : Nat → Int32) : Nat → Nat → Int32
  | 0, v => if v < tW D then (if K v = -1 then 0 else bitN v ||| lns (U v) 16) else 0
  | h + 1, v => if v < tW D then (if K v = -1 then res D K U h (v - 2 ^ h) ||| res D K U h (v + 2 ^ h) else bitN v ||| lns (U v) 16) else 0
theorem sh1h : ∀ h, h ≤ 4 → ((1 : Int32) <<< (nI h &&& 31)) = nI (2 ^ h) := by decide +kernel
theorem p2pos (h : Nat) : 1 ≤ 2 ^ h := Nat.one_le_two_pow
set_option maxRecDepth 100000 in
set_option maxHeartbeats 4000000 in
theorem c_res (l : Launch) (d : gh_D) (g : gh_H) {e D t ka ba ua : Nat} {K B U : Nat → Int32} (hp : pT g e D t ka ba ua K B U) : ∀ (h v : Nat), h ≤ 4 → 2 ^ h ≤ v + 1 → v + 2 ^ h < 1000 → gh_C l d mT_resolution (rr (h + 3) 0 0) [.ref t, .int (nI v), .int (nI h)] g (fun v1 g1 => v1 = some (.int (res D K U h v)) ∧ g1 = g) := by
  have hD := hp.2.2.2.2
  have h31 := tW_le hD
  intro h
  induction h with
  | zero =>
    intro v _ _ hv
    have hv : v < 1000 := by omega
    refine gh_of [some (.ref t), some (.int (nI v)), some (.int (nI 0)), none] (by decide) rfl (Nat.le_of_ble_eq_true rfl) (by simp [Value.category]) (fun z C hQ => ?_)
    show gh_W l d z 0 [some (.ref t), some (.int (nI v)), some (.int (nI 0)), none] [] g 0 0
    refine gh_aload_n C dT_resolution_0 rfl ?_
    refine gh_iload_n C dT_resolution_1 rfl ?_
    refine gh_callV C [.int (nI v)] (c_isThere l d _ hp (nI v)) lT_35 wT_isThere vT_isThere hp.1 rfl rfl rfl (Nat.le_of_ble_eq_true rfl) ⟨Nat.le_of_ble_eq_true rfl, Nat.le_of_ble_eq_true rfl⟩ (Nat.le_of_ble_eq_true rfl) (Nat.le_of_ble_eq_true rfl) dT_resolution_2 (fun v2 g2 h2 => ?_)
    obtain ⟨rfl, rfl⟩ := h2
    refine gh_if_ne C 10 dT_resolution_5 (by decide) (fun c5 => ?_) (fun c5 => ?_)
    ·
      have hx : thr D (nI v) = true := by
        by_cases h : thr D (nI v) = true
        · exact h
        · rw [if_neg h] at c5; exact absurd rfl c5
      have hv2 : v < tW D := by rw [thr_n hD (by omega)] at hx; simpa using hx
      refine gh_aload_n C dT_resolution_10 rfl ?_
      refine gh_get C fT_9 hp.1 rfl dT_resolution_11 ?_
      refine gh_iload_n C dT_resolution_14 rfl ?_
      refine gh_ialdN C (v) hp.2.1 rfl rfl ⟨by omega, by decide⟩ dT_resolution_15 ?_
      refine gh_iconst C (-1) dT_resolution_16 (by decide) ?_
      refine gh_icmp_eq C 35 dT_resolution_17 (by decide) (fun c17 => ?_) (fun c17 => ?_)
      ·
        refine gh_iload_n C dT_resolution_35 rfl ?_
        refine gh_if_gt C 41 dT_resolution_36 (by decide) (fun c36 => ?_) (fun c36 => ?_)
        · exact absurd c36 (by decide)
        ·
          refine gh_iconst C 0 dT_resolution_39 (by decide) ?_
          refine gh_iret C hQ rfl dT_resolution_40 ?_
          exact ⟨by first | (simp only [res, if_pos hv2, if_neg c17]; rfl) | (simp only [res, if_pos hv2, if_pos c17]), rfl⟩
      ·
        refine gh_iload_n C dT_resolution_20 rfl ?_
        refine gh_callS C [.int (nI v)] (c_bit l d _ (nI v)) lT_55 wG_bit sG_bit rfl rfl (Nat.le_of_ble_eq_true rfl) ⟨Nat.le_of_ble_eq_true rfl, Nat.le_of_ble_eq_true rfl⟩ (Nat.le_of_ble_eq_true rfl) (Nat.le_of_ble_eq_true rfl) dT_resolution_21 (fun v21 g21 h21 => ?_)
        obtain ⟨rfl, rfl⟩ := h21
        refine gh_aload_n C dT_resolution_24 rfl ?_
        refine gh_get C fT_18 hp.1 rfl dT_resolution_25 ?_
        refine gh_iload_n C dT_resolution_28 rfl ?_
        refine gh_ialdN C (v) hp.2.2.2.1 rfl rfl ⟨by omega, by decide⟩ dT_resolution_29 ?_
        refine gh_callS C [.int (U v)] (c_leafNodes l d _ (U v)) lT_64 wG_leafNodes sG_leafNodes rfl rfl (Nat.le_of_ble_eq_true rfl) ⟨by dsimp only [rr]; omega, by show 8 + (3 + 11) + 40 * 1 ≤ 40 * _; omega⟩ (Nat.le_of_ble_eq_true rfl) (Nat.le_of_ble_eq_true rfl) dT_resolution_30 (fun v30 g30 h30 => ?_)
        obtain ⟨rfl, rfl⟩ := h30
        refine gh_ior C dT_resolution_33 ?_
        refine gh_iret C hQ rfl dT_resolution_34 ?_
        exact ⟨by first | (simp only [res, if_pos hv2, if_neg c17]; rfl) | (simp only [res, if_pos hv2, if_pos c17]), rfl⟩
    · have hx : ¬ thr D (nI v) = true := fun h => by rw [if_pos h] at c5; exact absurd c5 (by decide)
      have hv2 : ¬ v < tW D := fun h => hx (by rw [thr_n hD (by omega)]; simp [h])
      refine gh_iconst C 0 dT_resolution_8 (by decide) ?_
      refine gh_iret C hQ rfl dT_resolution_9 ?_
      exact ⟨by simp only [res, if_neg hv2], rfl⟩
  | succ h ih =>
    intro v hh hvl hvu
    have hp2 := p2pos h
    have hpow : 2 ^ (h + 1) = 2 * 2 ^ h := by rw [Nat.pow_succ]; omega
    refine gh_of [some (.ref t), some (.int (nI v)), some (.int (nI (h + 1))), none] (by decide) rfl (Nat.le_of_ble_eq_true rfl) (by simp [Value.category]) (fun z C hQ => ?_)
    show gh_W l d z 0 [some (.ref t), some (.int (nI v)), some (.int (nI (h + 1))), none] [] g 0 0
    refine gh_aload_n C dT_resolution_0 rfl ?_
    refine gh_iload_n C dT_resolution_1 rfl ?_
    refine gh_callV C [.int (nI v)] (c_isThere l d _ hp (nI v)) lT_35 wT_isThere vT_isThere hp.1 rfl rfl rfl (Nat.le_of_ble_eq_true rfl) ⟨Nat.le_of_ble_eq_true rfl, Nat.le_of_ble_eq_true rfl⟩ (Nat.le_of_ble_eq_true rfl) (Nat.le_of_ble_eq_true rfl) dT_resolution_2 (fun v2 g2 h2 => ?_)
    obtain ⟨rfl, rfl⟩ := h2
    refine gh_if_ne C 10 dT_resolution_5 (by decide) (fun c5 => ?_) (fun c5 => ?_)
    ·
      have hx : thr D (nI v) = true := by
        by_cases h : thr D (nI v) = true
        · exact h
        · rw [if_neg h] at c5; exact absurd rfl c5
      have hv2 : v < tW D := by rw [thr_n hD (by omega)] at hx; simpa using hx
      refine gh_aload_n C dT_resolution_10 rfl ?_
      refine gh_get C fT_9 hp.1 rfl dT_resolution_11 ?_
      refine gh_iload_n C dT_resolution_14 rfl ?_
      refine gh_ialdN C (v) hp.2.1 rfl rfl ⟨by omega, by decide⟩ dT_resolution_15 ?_
      refine gh_iconst C (-1) dT_resolution_16 (by decide) ?_
      refine gh_icmp_eq C 35 dT_resolution_17 (by decide) (fun c17 => ?_) (fun c17 => ?_)
      ·
        refine gh_iload_n C dT_resolution_35 rfl ?_
        refine gh_if_gt C 41 dT_resolution_36 (by decide) (fun c36 => ?_) (fun c36 => ?_)
        ·
          refine gh_iconst C 1 dT_resolution_41 (by decide) ?_
          refine gh_iload_n C dT_resolution_42 rfl ?_
          refine gh_iconst C 1 dT_resolution_43 (by decide) ?_
          refine gh_isub C dT_resolution_44 ?_
          refine gh_ti (nI h) (nI_pred h) ?_
          refine gh_ishl C dT_resolution_45 ?_
          refine gh_ti (nI (2 ^ h)) (sh1h h (by omega)) ?_
          refine gh_istore_n C [some (.ref t), some (.int (nI v)), some (.int (nI (h + 1))), some (.int (nI (2 ^ h)))] dT_resolution_46 rfl (Nat.le_of_ble_eq_true rfl) ?_
          refine gh_aload_n C dT_resolution_47 rfl ?_
          refine gh_iload_n C dT_resolution_48 rfl ?_
          refine gh_iload_n C dT_resolution_49 rfl ?_
          refine gh_isub C dT_resolution_50 ?_
          refine gh_ti (nI (v - 2 ^ h)) (pk_sub (by omega)) ?_
          refine gh_iload_n C dT_resolution_51 rfl ?_
          refine gh_iconst C 1 dT_resolution_52 (by decide) ?_
          refine gh_isub C dT_resolution_53 ?_
          refine gh_ti (nI h) (nI_pred h) ?_
          refine gh_callV C [.int (nI (v - 2 ^ h)), .int (nI h)] (ih (v - 2 ^ h) (by omega) (by omega) (by omega)) lT_67 wT_resolution vT_resolution hp.1 rfl rfl rfl (Nat.le_of_ble_eq_true rfl) ⟨by dsimp only [rr]; omega, by show 8 + (4 + 11) + 40 * (h + 3) ≤ 40 * (h + 1 + 3); omega⟩ (Nat.le_of_ble_eq_true rfl) (Nat.le_of_ble_eq_true rfl) dT_resolution_54 (fun v54 g54 h54 => ?_)
          obtain ⟨rfl, rfl⟩ := h54
          refine gh_aload_n C dT_resolution_57 rfl ?_
          refine gh_iload_n C dT_resolution_58 rfl ?_
          refine gh_iload_n C dT_resolution_59 rfl ?_
          refine gh_iadd C dT_resolution_60 ?_
          refine gh_ti (nI (v + 2 ^ h)) (nI_add v (2 ^ h)) ?_
          refine gh_iload_n C dT_resolution_61 rfl ?_
          refine gh_iconst C 1 dT_resolution_62 (by decide) ?_
          refine gh_isub C dT_resolution_63 ?_
          refine gh_ti (nI h) (nI_pred h) ?_
          refine gh_callV C [.int (nI (v + 2 ^ h)), .int (nI h)] (ih (v + 2 ^ h) (by omega) (by omega) (by omega)) lT_67 wT_resolution vT_resolution hp.1 rfl rfl rfl (Nat.le_of_ble_eq_true rfl) ⟨by dsimp only [rr]; omega, by show 8 + (4 + 11) + 40 * (h + 3) ≤ 40 * (h + 1 + 3); omega⟩ (Nat.le_of_ble_eq_true rfl) (Nat.le_of_ble_eq_true rfl) dT_resolution_64 (fun v64 g64 h64 => ?_)
          obtain ⟨rfl, rfl⟩ := h64
          refine gh_ior C dT_resolution_67 ?_
          refine gh_iret C hQ rfl dT_resolution_68 ?_
          exact ⟨by first | (simp only [res, if_pos hv2, if_neg c17]; rfl) | (simp only [res, if_pos hv2, if_pos c17]), rfl⟩
        · exact absurd (show (0 : Int32) < nI (h + 1) from nI_lt (a := 0) (by omega) (by omega)) c36
      ·
        refine gh_iload_n C dT_resolution_20 rfl ?_
        refine gh_callS C [.int (nI v)] (c_bit l d _ (nI v)) lT_55 wG_bit sG_bit rfl rfl (Nat.le_of_ble_eq_true rfl) ⟨Nat.le_of_ble_eq_true rfl, Nat.le_of_ble_eq_true rfl⟩ (Nat.le_of_ble_eq_true rfl) (Nat.le_of_ble_eq_true rfl) dT_resolution_21 (fun v21 g21 h21 => ?_)
        obtain ⟨rfl, rfl⟩ := h21
        refine gh_aload_n C dT_resolution_24 rfl ?_
        refine gh_get C fT_18 hp.1 rfl dT_resolution_25 ?_
        refine gh_iload_n C dT_resolution_28 rfl ?_
        refine gh_ialdN C (v) hp.2.2.2.1 rfl rfl ⟨by omega, by decide⟩ dT_resolution_29 ?_
        refine gh_callS C [.int (U v)] (c_leafNodes l d _ (U v)) lT_64 wG_leafNodes sG_leafNodes rfl rfl (Nat.le_of_ble_eq_true rfl) ⟨by dsimp only [rr]; omega, by show 8 + (3 + 11) + 40 * 1 ≤ 40 * _; omega⟩ (Nat.le_of_ble_eq_true rfl) (Nat.le_of_ble_eq_true rfl) dT_resolution_30 (fun v30 g30 h30 => ?_)
        obtain ⟨rfl, rfl⟩ := h30
        refine gh_ior C dT_resolution_33 ?_
        refine gh_iret C hQ rfl dT_resolution_34 ?_
        exact ⟨by first | (simp only [res, if_pos hv2, if_neg c17]; rfl) | (simp only [res, if_pos hv2, if_pos c17]), rfl⟩
    · have hx : ¬ thr D (nI v) = true := fun h => by rw [if_pos h] at c5; exact absurd c5 (by decide)
      have hv2 : ¬ v < tW D := fun h => hx (by rw [thr_n hD (by omega)]; simp [h])
      refine gh_iconst C 0 dT_resolution_8 (by decide) ?_
      refine gh_iret C hQ rfl dT_resolution_9 ?_
      exact ⟨by simp only [res, if_neg hv2], rfl⟩
def lowc (D : Nat) (c : Int32) (a : Nat) : Option Nat := (List.range D).find? (fun h => decide (c &&& bitN (pn a (h + 1)) ≠ 0))
def lowh (D : Nat) (c : Int32) (a : Nat) : Int32 := match lowc D c a with
  | some h => nI (h + 1)
  | none => -1
theorem lowc_at {D i a : Nat} {c : Int32} (hi : i < D) (hb : ¬ c &&& bitN (pn a (i + 1)) = 0) (hl : ∀ j, j < i → c &&& bitN (pn a (j + 1)) = 0) : lowc D c a = some i := by
  unfold lowc
  rw [List.find?_range_eq_some]
  exact ⟨by simp [hb], by simpa using hi, fun j hj => by simp [hl j hj]⟩
theorem lowc_no {D a : Nat} {c : Int32} (hl : ∀ j, j < D → c &&& bitN (pn a (j + 1)) = 0) : lowc D c a = none := by
  unfold lowc
  rw [List.find?_eq_none]
  intro j hj
  rw [List.mem_range] at hj
  simp [hl j hj]
set_option maxRecDepth 100000 in
set_option maxHeartbeats 4000000 in
theorem c_lowest (l : Launch) (d : gh_D) (g : gh_H) {e D t ka ba ua : Nat} {K B U : Nat → Int32} (hp : pT g e D t ka ba ua K B U) {x : Nat} {i1 i2 i3 cn i5 i6 i7 i8 : Int32} (he : g (12, e) = some (x, .inr (3, [.int i1, .ref t, .int i2, .int i3, .int cn, .int i5, .int i6, .int i7, .int i8]))) (a : Nat) (ha : a < 2 ^ D) : gh_C l d mE_lowestCounting (rr 1 0 0) [.ref x, .int (nI a)] g (fun v g1 => v = some (.int (lowh D cn a)) ∧ g1 = g) := by
  refine gh_of [some (.ref x), some (.int (nI a)), none] (by decide) rfl (Nat.le_of_ble_eq_true rfl) (by simp [Value.category]) (fun z C hQ => ?_)
  show gh_W l d z 0 [some (.ref x), some (.int (nI a)), none] [] g 0 0
  have hD := hp.2.2.2.2
  have h16 := pow_le D hD
  have loop : ∀ (c i : Nat), i + c = D → (∀ j, j < i → cn &&& bitN (pn a (j + 1)) = 0) → gh_W l d z 2 [some (.ref x), some (.int (nI a)), some (.int (nI (i + 1)))] [] g 0 0 := by
    intro c
    induction c with
    | zero =>
      intro i hi hb
      have hi : i = D := by omega
      subst hi
      refine gh_iload_n C dE_lowestCounting_2 rfl ?_
      refine gh_aload_n C dE_lowestCounting_3 rfl ?_
      refine gh_get C fE_18 he rfl dE_lowestCounting_4 ?_
      refine gh_get C fE_25 hp.1 rfl dE_lowestCounting_7 ?_
      refine gh_icmp_gt C 37 dE_lowestCounting_10 (by decide) (fun c10 => ?_) (fun c10 => ?_)
      ·
        refine gh_iconst C (-1) dE_lowestCounting_37 (by decide) ?_
        refine gh_iret C hQ rfl dE_lowestCounting_38 ?_
        exact ⟨by simp only [lowh, lowc_no hb], rfl⟩
      · exact absurd (nI_lt (Nat.lt_succ_self i) (by omega)) c10
    | succ c ih =>
      intro i hi hb
      have hi2 : i + 1 ≤ D := by omega
      refine gh_iload_n C dE_lowestCounting_2 rfl ?_
      refine gh_aload_n C dE_lowestCounting_3 rfl ?_
      refine gh_get C fE_18 he rfl dE_lowestCounting_4 ?_
      refine gh_get C fE_25 hp.1 rfl dE_lowestCounting_7 ?_
      refine gh_icmp_gt C 37 dE_lowestCounting_10 (by decide) (fun c10 => ?_) (fun c10 => ?_)
      · exact absurd c10 (nI_nlt hi2 (by omega))
      ·
        refine gh_aload_n C dE_lowestCounting_13 rfl ?_
        refine gh_get C fE_30 he rfl dE_lowestCounting_14 ?_
        refine gh_iload_n C dE_lowestCounting_17 rfl ?_
        refine gh_iload_n C dE_lowestCounting_18 rfl ?_
        refine gh_callS C [.int (nI a), .int (nI (i + 1))] (c_pathNode l d _ a (i + 1) (by omega) (by omega)) lE_33 wG_pathNode sG_pathNode rfl rfl (Nat.le_of_ble_eq_true rfl) ⟨Nat.le_of_ble_eq_true rfl, Nat.le_of_ble_eq_true rfl⟩ (Nat.le_of_ble_eq_true rfl) (Nat.le_of_ble_eq_true rfl) dE_lowestCounting_19 (fun v19 g19 h19 => ?_)
        obtain ⟨rfl, rfl⟩ := h19
        refine gh_callS C [.int (nI (pn a (i + 1)))] (c_bit l d _ (nI (pn a (i + 1)))) lE_37 wG_bit sG_bit rfl rfl (Nat.le_of_ble_eq_true rfl) ⟨Nat.le_of_ble_eq_true rfl, Nat.le_of_ble_eq_true rfl⟩ (Nat.le_of_ble_eq_true rfl) (Nat.le_of_ble_eq_true rfl) dE_lowestCounting_22 (fun v22 g22 h22 => ?_)
        obtain ⟨rfl, rfl⟩ := h22
        refine gh_iand C dE_lowestCounting_25 ?_
        refine gh_if_eq C 31 dE_lowestCounting_26 (by decide) (fun c26 => ?_) (fun c26 => ?_)
        ·
          refine gh_iinc C (nI ((i + 1) + 1)) [some (.ref x), some (.int (nI a)), some (.int (nI ((i + 1) + 1)))] dE_lowestCounting_31 rfl (gh_inc (i + 1)) rfl ?_
          refine gh_goto C 2 dE_lowestCounting_34 (by decide) ?_
          exact ih (i + 1) (by omega) (fun j h2 => by
            by_cases h : j = i
            · subst h; exact c26
            · exact hb j (by omega))
        ·
          refine gh_iload_n C dE_lowestCounting_29 rfl ?_
          refine gh_iret C hQ rfl dE_lowestCounting_30 ?_
          exact ⟨by simp only [lowh, lowc_at (show i < D by omega) c26 hb], rfl⟩
  refine gh_iconst C 1 dE_lowestCounting_0 (by decide) ?_
  refine gh_istore_n C [some (.ref x), some (.int (nI a)), some (.int 1)] dE_lowestCounting_1 rfl (Nat.le_of_ble_eq_true rfl) ?_
  exact loop D 0 (by omega) (fun j h2 => by omega)
def rbl (k : Nat) (K : Nat → Int32) : Bool := (List.range (2 ^ k)).all (fun i => K (2 * (2 ^ k + i)) == -1)
def shr (K : Nat → Int32) : Nat → Nat
  | 0 => 0
  | k + 1 => if rbl k K = true then shr K k else k + 1
theorem rbl_iff (k : Nat) (K : Nat → Int32) : rbl k K = true ↔ ∀ i, 2 ^ k ≤ i → i < 2 ^ (k + 1) → K (2 * i) = -1 := by
  have hpow : 2 ^ (k + 1) = 2 * 2 ^ k := by rw [Nat.pow_succ]; omega
  simp only [rbl, List.all_eq_true, List.mem_range, beq_iff_eq]
  constructor
  · intro h i h1 h2
    have := h (i - 2 ^ k) (by omega)
    rwa [show 2 ^ k + (i - 2 ^ k) = i by omega] at this
  · intro h i hi
    exact h (2 ^ k + i) (by omega) (by omega)
theorem shr_le (K : Nat → Int32) : ∀ D, shr K D ≤ D
  | 0 => Nat.le_refl 0
  | k + 1 => by
    unfold shr
    split
    · exact Nat.le_succ_of_le (shr_le K k)
    · exact Nat.le_refl _
def cut (a b : Nat) (x : Int32) (f : Nat → Int32) : Nat → Int32 := fun v => if a ≤ v ∧ v < b then x else f v
theorem cut_0 (a : Nat) (x : Int32) (f : Nat → Int32) : cut a a x f = f := by funext v; simp only [cut]; rw [if_neg (by omega)]
theorem cut_s {a b c i : Nat} (x : Int32) (f : Nat → Int32) (h1 : a ≤ i) (h2 : i < b) (h3 : b ≤ c) : upd (fun v => if (a ≤ v ∧ v < i) ∨ (b ≤ v ∧ v < c) then x else f v) i x = fun v => if (a ≤ v ∧ v < i + 1) ∨ (b ≤ v ∧ v < c) then x else f v := by
  funext v
  simp only [upd]
  by_cases h : v = i
  · subst h
    rw [if_pos rfl, if_pos (Or.inl ⟨h1, by omega⟩)]
  · rw [if_neg h]
    by_cases h5 : (a ≤ v ∧ v < i) ∨ (b ≤ v ∧ v < c)
    · rw [if_pos h5, if_pos (by omega)]
    · rw [if_neg h5, if_neg (by omega)]
def tst (g : gh_H) (e D t ka ba ua : Nat) (K B U : Nat → Int32) : gh_H := gh_u (tset g e ka ba ua K B U) (13, e) (t, .inr (4, [.int (nI D), .ref ka, .ref ba, .ref ua]))
theorem tst_pT {g : gh_H} {e D t ka ba ua : Nat} {K B U : Nat → Int32} (D1 : Nat) (h4 : D1 ≤ 4) (K1 B1 U1 : Nat → Int32) : pT (tst g e D1 t ka ba ua K1 B1 U1) e D1 t ka ba ua K1 B1 U1 := by
  unfold tst tset
  refine ⟨gh_us, ?_, ?_, ?_, h4⟩
  · rw [gh_un (gh_kd (by decide)), gh_un (gh_kd (by decide)), gh_un (gh_kd (by decide)), gh_us]
  · rw [gh_un (gh_kd (by decide)), gh_un (gh_kd (by decide)), gh_us]
  · rw [gh_un (gh_kd (by decide)), gh_us]
theorem tst_self {g : gh_H} {e D t ka ba ua : Nat} {K B U : Nat → Int32} (h : pT g e D t ka ba ua K B U) : tst g e D t ka ba ua K B U = g := by
  unfold tst; rw [tset_self h, gh_uself h.1]
theorem tst_tset (g : gh_H) (e D t ka ba ua : Nat) (K B U K1 B1 U1 : Nat → Int32) : tset (tst g e D t ka ba ua K B U) e ka ba ua K1 B1 U1 = tst g e D t ka ba ua K1 B1 U1 := by
  funext q
  unfold tst tset gh_u
  by_cases h1 : q = (16, e) <;> by_cases h2 : q = (15, e) <;> by_cases h3 : q = (14, e) <;> by_cases h4 : q = (13, e) <;> simp_all
theorem tst_d (g : gh_H) (e D D1 t ka ba ua : Nat) (K B U : Nat → Int32) : gh_u (tst g e D t ka ba ua K B U) (13, e) (t, .inr (4, [.int (nI D1), .ref ka, .ref ba, .ref ua])) = tst g e D1 t ka ba ua K B U := by unfold tst; rw [gh_uu]
theorem tW_s (k : Nat) : tW k + 2 ^ (k + 1) = tW (k + 1) ∧ tW k = 2 ^ (k + 1) - 1 := by
  have hpow : 2 ^ (k + 1 + 1) = 2 * 2 ^ (k + 1) := by rw [Nat.pow_succ]; omega
  have := p2pos (k + 1)
  unfold tW
  omega
theorem tW_m {a b : Nat} (h : a ≤ b) : tW a ≤ tW b := by
  unfold tW
  have : 2 ^ (a + 1) ≤ 2 ^ (b + 1) := Nat.pow_le_pow_right (by decide) (by omega)
  omega
theorem sh1m : ∀ D, D ≤ 4 → ((1 : Int32) <<< (nI D &&& 31)) - 1 = nI (2 ^ D - 1) := by decide +kernel
set_option maxRecDepth 100000 in
set_option maxHeartbeats 4000000 in
theorem c_shrink (l : Launch) (d : gh_D) (g : gh_H) {e D t ka ba ua : Nat} {K B U : Nat → Int32} (hp : pT g e D t ka ba ua K B U) : gh_C l d mT_shrink (rr 3 0 0) [.ref t] g (fun v g1 => v = none ∧ g1 = tst g e (shr K D) t ka ba ua (cut (tW (shr K D)) (tW D) (-1) K) (cut (tW (shr K D)) (tW D) (-1) B) (cut (tW (shr K D)) (tW D) 0 U)) := by
  refine gh_of [some (.ref t), none] (by decide) rfl (Nat.le_of_ble_eq_true rfl) (by simp [Value.category]) (fun z C hQ => ?_)
  show gh_W l d z 0 [some (.ref t), none] [] g 0 0
  have hD := hp.2.2.2.2
  have h31 := tW_le hD
  have loop : ∀ (k : Nat) (y : Option Value), k ≤ D → shr K k = shr K D → gh_W l d z 0 [some (.ref t), y] [] (tst g e k t ka ba ua (cut (tW k) (tW D) (-1) K) (cut (tW k) (tW D) (-1) B) (cut (tW k) (tW D) 0 U)) 0 0 := by
    intro k
    induction k with
    | zero =>
      intro y hk hs
      have hp1 := tst_pT (g := g) (e := e) (D := 0) (t := t) (ka := ka) (ba := ba) (ua := ua) (K := K) (B := B) (U := U) 0 (by decide) (cut (tW 0) (tW D) (-1) K) (cut (tW 0) (tW D) (-1) B) (cut (tW 0) (tW D) 0 U)
      refine gh_aload_n C dT_shrink_0 rfl ?_
      refine gh_get C fT_27 hp1.1 rfl dT_shrink_1 ?_
      refine gh_if_le C 68 dT_shrink_4 (by decide) (fun c4 => ?_) (fun c4 => ?_)
      ·
        refine gh_vret C hQ rfl dT_shrink_68 ?_
        exact ⟨rfl, by rw [← hs]; rfl⟩
      · exact absurd (by decide) c4
    | succ k ih =>
      intro y hk hs
      have hp1 := tst_pT (g := g) (e := e) (D := k + 1) (t := t) (ka := ka) (ba := ba) (ua := ua) (K := K) (B := B) (U := U) (k + 1) (by omega) (cut (tW (k + 1)) (tW D) (-1) K) (cut (tW (k + 1)) (tW D) (-1) B) (cut (tW (k + 1)) (tW D) 0 U)
      have hw := tW_s k
      have hm := tW_m hk
      have hk4 : k + 1 ≤ 4 := by omega
      have hpow : 2 ^ (k + 1) = 2 * 2 ^ k := by rw [Nat.pow_succ]; omega
      have hpk := p2pos k
      have inner : ∀ (c i : Nat), i + c = tW (k + 1) → tW k ≤ i → gh_W l d z 32 [some (.ref t), some (.int (nI i))] [] (tst g e (k + 1) t ka ba ua (fun v => if (tW k ≤ v ∧ v < i) ∨ (tW (k + 1) ≤ v ∧ v < tW D) then -1 else K v) (fun v => if (tW k ≤ v ∧ v < i) ∨ (tW (k + 1) ≤ v ∧ v < tW D) then -1 else B v) (fun v => if (tW k ≤ v ∧ v < i) ∨ (tW (k + 1) ≤ v ∧ v < tW D) then 0 else U v)) 0 0 ∨ rbl k K = false := by
        intro c
        by_cases hrb : rbl k K = false
        · exact fun _ _ _ => Or.inr hrb
        · have hrb : rbl k K = true := by simpa using hrb
          induction c with
          | zero =>
            intro i hi hi2
            refine Or.inl ?_
            have hi : i = tW (k + 1) := by omega
            have hp2 := tst_pT (g := g) (e := e) (D := k + 1) (t := t) (ka := ka) (ba := ba) (ua := ua) (K := K) (B := B) (U := U) (k + 1) (by omega) (fun v => if (tW k ≤ v ∧ v < i) ∨ (tW (k + 1) ≤ v ∧ v < tW D) then -1 else K v) (fun v => if (tW k ≤ v ∧ v < i) ∨ (tW (k + 1) ≤ v ∧ v < tW D) then -1 else B v) (fun v => if (tW k ≤ v ∧ v < i) ∨ (tW (k + 1) ≤ v ∧ v < tW D) then 0 else U v)
            have hcut : ∀ (x : Int32) (f : Nat → Int32), (fun v => if (tW k ≤ v ∧ v < i) ∨ (tW (k + 1) ≤ v ∧ v < tW D) then x else f v) = cut (tW k) (tW D) x f := by
              intro x f
              funext v
              simp only [cut]
              by_cases h : tW k ≤ v ∧ v < tW D
              · rw [if_pos h, if_pos (by omega)]
              · rw [if_neg h, if_neg (by omega)]
            refine gh_iload_n C dT_shrink_32 rfl ?_
            refine gh_iconst C 2 dT_shrink_33 (by decide) ?_
            refine gh_aload_n C dT_shrink_34 rfl ?_
            refine gh_get C fT_27 hp2.1 rfl dT_shrink_35 ?_
            refine gh_ishl C dT_shrink_38 ?_
            refine gh_iconst C 1 dT_shrink_39 (by decide) ?_
            refine gh_isub C dT_shrink_40 ?_
            refine gh_ti (nI (tW (k + 1))) (thr_w (k + 1) hk4) ?_
            refine gh_icmp_ge C 55 dT_shrink_41 (by decide) (fun c41 => ?_) (fun c41 => ?_)
            ·
              refine gh_aload_n C dT_shrink_55 rfl ?_
              refine gh_dup C dT_shrink_56 rfl ?_
              refine gh_get C fT_27 hp2.1 rfl dT_shrink_57 ?_
              refine gh_iconst C 1 dT_shrink_60 (by decide) ?_
              refine gh_isub C dT_shrink_61 ?_
              refine gh_ti (nI k) (nI_pred k) ?_
              refine gh_putL C [.int (nI k), .ref ka, .ref ba, .ref ua] pT_27 (by decide) hp2.1 rfl (by simp) rfl rfl dT_shrink_62 ?_
              refine gh_goto C 0 dT_shrink_65 (by decide) ?_
              rw [tst_d, hcut, hcut, hcut]
              exact ih _ (by omega) (by rw [← hs]; simp only [shr, if_pos hrb])
            · exact absurd (nI_le (Nat.le_of_eq hi.symm) (by omega)) c41
          | succ c ihc =>
            intro i hi hi2
            refine Or.inl ?_
            have hlt : i < tW (k + 1) := by omega
            have hp2 := tst_pT (g := g) (e := e) (D := k + 1) (t := t) (ka := ka) (ba := ba) (ua := ua) (K := K) (B := B) (U := U) (k + 1) (by omega) (fun v => if (tW k ≤ v ∧ v < i) ∨ (tW (k + 1) ≤ v ∧ v < tW D) then -1 else K v) (fun v => if (tW k ≤ v ∧ v < i) ∨ (tW (k + 1) ≤ v ∧ v < tW D) then -1 else B v) (fun v => if (tW k ≤ v ∧ v < i) ∨ (tW (k + 1) ≤ v ∧ v < tW D) then 0 else U v)
            refine gh_iload_n C dT_shrink_32 rfl ?_
            refine gh_iconst C 2 dT_shrink_33 (by decide) ?_
            refine gh_aload_n C dT_shrink_34 rfl ?_
            refine gh_get C fT_27 hp2.1 rfl dT_shrink_35 ?_
            refine gh_ishl C dT_shrink_38 ?_
            refine gh_iconst C 1 dT_shrink_39 (by decide) ?_
            refine gh_isub C dT_shrink_40 ?_
            refine gh_ti (nI (tW (k + 1))) (thr_w (k + 1) hk4) ?_
            refine gh_icmp_ge C 55 dT_shrink_41 (by decide) (fun c41 => ?_) (fun c41 => ?_)
            · exact absurd c41 (nI_ge hlt (by omega))
            ·
              refine gh_aload_n C dT_shrink_44 rfl ?_
              refine gh_iload_n C dT_shrink_45 rfl ?_
              refine gh_callV C [.int (nI i)] (c_blank l d _ hp2 (nI i)) lT_47 wT_blank vT_blank hp2.1 rfl rfl rfl (Nat.le_of_ble_eq_true rfl) ⟨Nat.le_of_ble_eq_true rfl, Nat.le_of_ble_eq_true rfl⟩ (Nat.le_of_ble_eq_true rfl) (Nat.le_of_ble_eq_true rfl) dT_shrink_46 (fun v46 g46 h46 => ?_)
              obtain ⟨rfl, rfl⟩ := h46
              rw [tput_n hk4 hlt, tput_n hk4 hlt, tput_n hk4 hlt, cut_s (-1) K hi2 hlt hm, cut_s (-1) B hi2 hlt hm, cut_s 0 U hi2 hlt hm, tst_tset]
              refine gh_iinc C (nI (i + 1)) [some (.ref t), some (.int (nI (i + 1)))] dT_shrink_49 rfl (gh_inc i) rfl ?_
              refine gh_goto C 32 dT_shrink_52 (by decide) ?_
              rcases ihc (i + 1) (by omega) (by omega) with h | h
              · exact h
              · rw [hrb] at h; cases h
      have hK1 : ∀ i, i < 2 ^ (k + 1) → cut (tW (k + 1)) (tW D) (-1) K (2 * i) = K (2 * i) := by
        intro i hi
        simp only [cut]
        rw [if_neg (by omega)]
      refine gh_aload_n C dT_shrink_0 rfl ?_
      refine gh_get C fT_27 hp1.1 rfl dT_shrink_1 ?_
      refine gh_if_le C 68 dT_shrink_4 (by decide) (fun c4 => ?_) (fun c4 => ?_)
      · exact absurd c4 (show ¬ nI (k + 1) ≤ 0 from nI_nle (by omega) (by omega))
      ·
        refine gh_aload_n C dT_shrink_7 rfl ?_
        refine gh_iconst C 1 dT_shrink_8 (by decide) ?_
        refine gh_aload_n C dT_shrink_9 rfl ?_
        refine gh_get C fT_27 hp1.1 rfl dT_shrink_10 ?_
        refine gh_iconst C 1 dT_shrink_13 (by decide) ?_
        refine gh_isub C dT_shrink_14 ?_
        refine gh_ti (nI k) (nI_pred k) ?_
        refine gh_ishl C dT_shrink_15 ?_
        refine gh_ti (nI (2 ^ k)) (sh1h k (by omega)) ?_
        refine gh_callV C [.int (nI (2 ^ k))] (c_firstLeaf l d _ hp1 (2 ^ k) (by omega)) lT_58 wT_firstLeafWithKey vT_firstLeafWithKey hp1.1 rfl rfl rfl (Nat.le_of_ble_eq_true rfl) ⟨Nat.le_of_ble_eq_true rfl, Nat.le_of_ble_eq_true rfl⟩ (Nat.le_of_ble_eq_true rfl) (Nat.le_of_ble_eq_true rfl) dT_shrink_16 (fun v16 g16 h16 => ?_)
        obtain ⟨⟨x, rfl, hx⟩, rfl⟩ := h16
        refine gh_iconst C (-1) dT_shrink_19 (by decide) ?_
        refine gh_icmp_ne C 68 dT_shrink_20 (by decide) (fun c20 => ?_) (fun c20 => ?_)
        ·
          have hrb : ¬ rbl k K = true := fun h => c20 (hx.mpr (fun i h1 h2 => by rw [hK1 i h2]; exact (rbl_iff k K).mp h i h1 h2))
          refine gh_vret C hQ rfl dT_shrink_68 ?_
          exact ⟨rfl, by rw [← hs]; simp only [shr, if_neg hrb]⟩
        ·
          have hrb : rbl k K = true := (rbl_iff k K).mpr (fun i h1 h2 => by rw [← hK1 i h2]; exact hx.mp c20 i h1 h2)
          refine gh_iconst C 1 dT_shrink_23 (by decide) ?_
          refine gh_aload_n C dT_shrink_24 rfl ?_
          refine gh_get C fT_27 hp1.1 rfl dT_shrink_25 ?_
          refine gh_ishl C dT_shrink_28 ?_
          refine gh_iconst C 1 dT_shrink_29 (by decide) ?_
          refine gh_isub C dT_shrink_30 ?_
          refine gh_ti (nI (tW k)) (by rw [sh1m (k + 1) hk4, hw.2]) ?_
          refine gh_istore_n C [some (.ref t), some (.int (nI (tW k)))] dT_shrink_31 rfl (Nat.le_of_ble_eq_true rfl) ?_
          rcases inner (2 ^ (k + 1)) (tW k) (by omega) (Nat.le_refl _) with h | h
          · have hcut : ∀ (x : Int32) (f : Nat → Int32), (fun v => if (tW k ≤ v ∧ v < tW k) ∨ (tW (k + 1) ≤ v ∧ v < tW D) then x else f v) = cut (tW (k + 1)) (tW D) x f := by
              intro x f
              funext v
              simp only [cut]
              by_cases h : tW (k + 1) ≤ v ∧ v < tW D
              · rw [if_pos h, if_pos (by omega)]
              · rw [if_neg h, if_neg (by omega)]
            rw [hcut, hcut, hcut] at h
            exact h
          · rw [hrb] at h; cases h
  have h := loop D none (Nat.le_refl D) rfl
  rw [cut_0, cut_0, cut_0, tst_self hp] at h
  exact h
