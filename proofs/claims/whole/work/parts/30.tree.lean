/-! TREES. A tree of number e (key (13, e)): depth D, keys K, born B, unmerged U (keys (14, e), (15, e), (16, e)) -/
def tW (D : Nat) : Nat := 2 ^ (D + 1) - 1
def pn (a h : Nat) : Nat := a / 2 ^ h * 2 ^ (h + 1) + 2 ^ h - 1
def thr (D : Nat) (x : Int32) : Bool := decide (0 ≤ x) && decide (x < nI (tW D))
theorem thr_w : ∀ D, D ≤ 4 → ((2 : Int32) <<< (nI D &&& 31)) - 1 = nI (tW D) := by decide +kernel
theorem pn_w : ∀ h, h ≤ 4 → ∀ a, a < 16 → ((nI a >>> (nI h &&& 31)) <<< ((nI h + 1) &&& 31)) + ((1 : Int32) <<< (nI h &&& 31)) - 1 = nI (pn a h) := by decide +kernel
theorem pn_lt : ∀ h, h ≤ 4 → ∀ a, a < 16 → pn a h < 31 := by decide +kernel
theorem tW_le {D : Nat} (h : D ≤ 4) : tW D ≤ 31 := by
  have : ∀ D, D ≤ 4 → tW D ≤ 31 := by decide +kernel
  exact this D h
theorem thr_of {D : Nat} {x : Int32} (hD : D ≤ 4) (h : thr D x = true) : ∃ j : Nat, j < tW D ∧ x = nI j := by
  simp only [thr, Bool.and_eq_true, decide_eq_true_eq] at h
  have h1 := tW_le hD
  rcases pk_ix x (n := tW D) (by omega) with h2 | h2 | h2
  · exact absurd h.1 (Int32.not_le.mpr h2)
  · exact absurd h.2 (Int32.not_lt.mpr h2)
  · exact h2
theorem thr_n {D j : Nat} (hD : D ≤ 4) (hj : j < 2 ^ 31) : thr D (nI j) = decide (j < tW D) := by
  have h1 := tW_le hD
  have h2 : (0 : Int32) ≤ nI j := nI_pos' (by omega)
  simp [thr, h2, nI_ltI (show j < 2 ^ 31 by omega) (show tW D < 2 ^ 31 by omega)]
def pT (g : gh_H) (e D t ka ba ua : Nat) (K B U : Nat → Int32) : Prop := g (13, e) = some (t, .inr (4, [.int (nI D), .ref ka, .ref ba, .ref ua])) ∧ g (14, e) = some (ka, .inl (0, 31, .inl K)) ∧ g (15, e) = some (ba, .inl (0, 31, .inl B)) ∧ g (16, e) = some (ua, .inl (0, 31, .inl U)) ∧ D ≤ 4
def tkey (D : Nat) (K : Nat → Int32) (x : Int32) : Int32 := if thr D x = true then K x.toNatClampNeg else -1
def tset (g : gh_H) (e ka ba ua : Nat) (K B U : Nat → Int32) : gh_H := gh_u (gh_u (gh_u g (14, e) (ka, .inl (0, 31, .inl K))) (15, e) (ba, .inl (0, 31, .inl B))) (16, e) (ua, .inl (0, 31, .inl U))
theorem tset_self {g : gh_H} {e D t ka ba ua : Nat} {K B U : Nat → Int32} (h : pT g e D t ka ba ua K B U) : tset g e ka ba ua K B U = g := by
  unfold tset
  rw [gh_uself h.2.1, gh_uself h.2.2.1, gh_uself h.2.2.2.1]
theorem tset_pT {g : gh_H} {e D t ka ba ua : Nat} {K B U : Nat → Int32} (h : pT g e D t ka ba ua K B U) (K1 B1 U1 : Nat → Int32) : pT (tset g e ka ba ua K1 B1 U1) e D t ka ba ua K1 B1 U1 := by
  unfold tset
  refine ⟨?_, ?_, ?_, gh_us, h.2.2.2.2⟩
  · rw [gh_un (gh_kd (by decide)), gh_un (gh_kd (by decide)), gh_un (gh_kd (by decide))]; exact h.1
  · rw [gh_un (gh_kd (by decide)), gh_un (gh_kd (by decide)), gh_us]
  · rw [gh_un (gh_kd (by decide)), gh_us]
theorem tset_tset (g : gh_H) (e ka ba ua : Nat) (K B U K1 B1 U1 : Nat → Int32) : tset (tset g e ka ba ua K B U) e ka ba ua K1 B1 U1 = tset g e ka ba ua K1 B1 U1 := by
  unfold tset
  funext q
  unfold gh_u
  by_cases h1 : q = (16, e) <;> by_cases h2 : q = (15, e) <;> by_cases h3 : q = (14, e) <;> simp_all
set_option maxRecDepth 100000 in
set_option maxHeartbeats 4000000 in
theorem c_bit (l : Launch) (d : gh_D) (g : gh_H) (x : Int32) : gh_C l d mG_bit (rr 0 0 0) [.int x] g (fun v g1 => v = some (.int (1 <<< (x &&& 31))) ∧ g1 = g) := by
  refine gh_of [some (.int x)] (by decide) rfl (Nat.le_of_ble_eq_true rfl) (by simp [Value.category]) (fun z C hQ => ?_)
  show gh_W l d z 0 [some (.int x)] [] g 0 0
  refine gh_iconst C 1 dG_bit_0 (by decide) ?_
  refine gh_iload_n C dG_bit_1 rfl ?_
  refine gh_ishl C dG_bit_2 ?_
  refine gh_iret C hQ rfl dG_bit_3 ?_
  exact ⟨rfl, rfl⟩
set_option maxRecDepth 100000 in
set_option maxHeartbeats 4000000 in
theorem c_leafNode (l : Launch) (d : gh_D) (g : gh_H) (x : Int32) : gh_C l d mG_leafNode (rr 0 0 0) [.int x] g (fun v g1 => v = some (.int (2 * x)) ∧ g1 = g) := by
  refine gh_of [some (.int x)] (by decide) rfl (Nat.le_of_ble_eq_true rfl) (by simp [Value.category]) (fun z C hQ => ?_)
  show gh_W l d z 0 [some (.int x)] [] g 0 0
  refine gh_iconst C 2 dG_leafNode_0 (by decide) ?_
  refine gh_iload_n C dG_leafNode_1 rfl ?_
  refine gh_imul C dG_leafNode_2 ?_
  refine gh_iret C hQ rfl dG_leafNode_3 ?_
  exact ⟨rfl, rfl⟩
set_option maxRecDepth 100000 in
set_option maxHeartbeats 4000000 in
theorem c_pathNode (l : Launch) (d : gh_D) (g : gh_H) (a h : Nat) (ha : a < 16) (hh : h ≤ 4) : gh_C l d mG_pathNode (rr 0 0 0) [.int (nI a), .int (nI h)] g (fun v g1 => v = some (.int (nI (pn a h))) ∧ g1 = g) := by
  refine gh_of [some (.int (nI a)), some (.int (nI h))] (by decide) rfl (Nat.le_of_ble_eq_true rfl) (by simp [Value.category]) (fun z C hQ => ?_)
  show gh_W l d z 0 [some (.int (nI a)), some (.int (nI h))] [] g 0 0
  refine gh_iload_n C dG_pathNode_0 rfl ?_
  refine gh_iload_n C dG_pathNode_1 rfl ?_
  refine gh_ishr C dG_pathNode_2 ?_
  refine gh_iload_n C dG_pathNode_3 rfl ?_
  refine gh_iconst C 1 dG_pathNode_4 (by decide) ?_
  refine gh_iadd C dG_pathNode_5 ?_
  refine gh_ishl C dG_pathNode_6 ?_
  refine gh_iconst C 1 dG_pathNode_7 (by decide) ?_
  refine gh_iload_n C dG_pathNode_8 rfl ?_
  refine gh_ishl C dG_pathNode_9 ?_
  refine gh_iadd C dG_pathNode_10 ?_
  refine gh_iconst C 1 dG_pathNode_11 (by decide) ?_
  refine gh_isub C dG_pathNode_12 ?_
  refine gh_iret C hQ rfl dG_pathNode_13 ?_
  exact ⟨by rw [← pn_w h hh a ha], rfl⟩
set_option maxRecDepth 100000 in
set_option maxHeartbeats 4000000 in
theorem c_isThere (l : Launch) (d : gh_D) (g : gh_H) {e D t ka ba ua : Nat} {K B U : Nat → Int32} (hp : pT g e D t ka ba ua K B U) (x : Int32) : gh_C l d mT_isThere (rr 0 0 0) [.ref t, .int x] g (fun v g1 => v = some (.int (if thr D x = true then 1 else 0)) ∧ g1 = g) := by
  refine gh_of [some (.ref t), some (.int x)] (by decide) rfl (Nat.le_of_ble_eq_true rfl) (by simp [Value.category]) (fun z C hQ => ?_)
  show gh_W l d z 0 [some (.ref t), some (.int x)] [] g 0 0
  refine gh_iload_n C dT_isThere_0 rfl ?_
  refine gh_if_lt C 20 dT_isThere_1 (by decide) (fun c1 => ?_) (fun c1 => ?_)
  ·
    refine gh_iconst C 0 dT_isThere_20 (by decide) ?_
    refine gh_zret C hQ rfl (by simp) dT_isThere_21 ?_
    exact ⟨by first | (rw [if_pos (by simp only [thr, Bool.and_eq_true, decide_eq_true_eq]; exact ⟨Int32.not_lt.mp c1, Int32.not_le.mp c13⟩)]; done) | (rw [if_neg (by simp only [thr, Bool.and_eq_true, decide_eq_true_eq]; exact fun h => absurd h.1 (Int32.not_le.mpr c1))]; done) | (rw [if_neg (by simp only [thr, Bool.and_eq_true, decide_eq_true_eq]; exact fun h => absurd h.2 (Int32.not_lt.mpr c13))]; done), rfl⟩
  ·
    refine gh_iload_n C dT_isThere_4 rfl ?_
    refine gh_iconst C 2 dT_isThere_5 (by decide) ?_
    refine gh_aload_n C dT_isThere_6 rfl ?_
    refine gh_get C fT_27 hp.1 rfl dT_isThere_7 ?_
    refine gh_ishl C dT_isThere_10 ?_
    refine gh_iconst C 1 dT_isThere_11 (by decide) ?_
    refine gh_isub C dT_isThere_12 ?_
    refine gh_ti (nI (tW D)) (thr_w D hp.2.2.2.2) ?_
    refine gh_icmp_ge C 20 dT_isThere_13 (by decide) (fun c13 => ?_) (fun c13 => ?_)
    ·
      refine gh_iconst C 0 dT_isThere_20 (by decide) ?_
      refine gh_zret C hQ rfl (by simp) dT_isThere_21 ?_
      exact ⟨by first | (rw [if_pos (by simp only [thr, Bool.and_eq_true, decide_eq_true_eq]; exact ⟨Int32.not_lt.mp c1, Int32.not_le.mp c13⟩)]; done) | (rw [if_neg (by simp only [thr, Bool.and_eq_true, decide_eq_true_eq]; exact fun h => absurd h.1 (Int32.not_le.mpr c1))]; done) | (rw [if_neg (by simp only [thr, Bool.and_eq_true, decide_eq_true_eq]; exact fun h => absurd h.2 (Int32.not_lt.mpr c13))]; done), rfl⟩
    ·
      refine gh_iconst C 1 dT_isThere_16 (by decide) ?_
      refine gh_goto C 21 dT_isThere_17 (by decide) ?_
      refine gh_zret C hQ rfl (by simp) dT_isThere_21 ?_
      exact ⟨by first | (rw [if_pos (by simp only [thr, Bool.and_eq_true, decide_eq_true_eq]; exact ⟨Int32.not_lt.mp c1, Int32.not_le.mp c13⟩)]; done) | (rw [if_neg (by simp only [thr, Bool.and_eq_true, decide_eq_true_eq]; exact fun h => absurd h.1 (Int32.not_le.mpr c1))]; done) | (rw [if_neg (by simp only [thr, Bool.and_eq_true, decide_eq_true_eq]; exact fun h => absurd h.2 (Int32.not_lt.mpr c13))]; done), rfl⟩
set_option maxRecDepth 100000 in
set_option maxHeartbeats 4000000 in
theorem c_keyOf (l : Launch) (d : gh_D) (g : gh_H) {e D t ka ba ua : Nat} {K B U : Nat → Int32} (hp : pT g e D t ka ba ua K B U) (x : Int32) : gh_C l d mT_keyOf (rr 1 0 0) [.ref t, .int x] g (fun v g1 => v = some (.int (if thr D x = true then K x.toNatClampNeg else -1)) ∧ g1 = g) := by
  refine gh_of [some (.ref t), some (.int x)] (by decide) rfl (Nat.le_of_ble_eq_true rfl) (by simp [Value.category]) (fun z C hQ => ?_)
  show gh_W l d z 0 [some (.ref t), some (.int x)] [] g 0 0
  refine gh_aload_n C dT_keyOf_0 rfl ?_
  refine gh_iload_n C dT_keyOf_1 rfl ?_
  refine gh_callV C [.int x] (c_isThere l d g hp x) lT_35 wT_isThere vT_isThere hp.1 rfl rfl rfl (Nat.le_of_ble_eq_true rfl) ⟨Nat.le_of_ble_eq_true rfl, Nat.le_of_ble_eq_true rfl⟩ (Nat.le_of_ble_eq_true rfl) (Nat.le_of_ble_eq_true rfl) dT_keyOf_2 (fun v2 g2 h2 => ?_)
  obtain ⟨rfl, rfl⟩ := h2
  refine gh_if_eq C 17 dT_keyOf_5 (by decide) (fun c5 => ?_) (fun c5 => ?_)
  ·
    have hx : ¬ thr D x = true := fun h => by rw [if_pos h] at c5; exact absurd c5 (by decide)
    refine gh_iconst C (-1) dT_keyOf_17 (by decide) ?_
    refine gh_iret C hQ rfl dT_keyOf_18 ?_
    exact ⟨by first | (rw [if_neg hx]; done) | (rw [if_pos hx, nI_clamp (by omega)]; done), rfl⟩
  ·
    have hx : thr D x = true := by
      by_cases h : thr D x = true
      · exact h
      · rw [if_neg h] at c5; exact absurd rfl c5
    obtain ⟨j, hj, rfl⟩ := thr_of hp.2.2.2.2 hx
    have h31 := tW_le hp.2.2.2.2
    refine gh_aload_n C dT_keyOf_8 rfl ?_
    refine gh_get C fT_9 hp.1 rfl dT_keyOf_9 ?_
    refine gh_iload_n C dT_keyOf_12 rfl ?_
    refine gh_ialdN C (j) hp.2.1 rfl rfl ⟨by omega, by decide⟩ dT_keyOf_13 ?_
    refine gh_goto C 18 dT_keyOf_14 (by decide) ?_
    refine gh_iret C hQ rfl dT_keyOf_18 ?_
    exact ⟨by first | (rw [if_neg hx]; done) | (rw [if_pos hx, nI_clamp (by omega)]; done), rfl⟩
set_option maxRecDepth 100000 in
set_option maxHeartbeats 4000000 in
theorem c_bornAt (l : Launch) (d : gh_D) (g : gh_H) {e D t ka ba ua : Nat} {K B U : Nat → Int32} (hp : pT g e D t ka ba ua K B U) (x : Int32) : gh_C l d mT_bornAt (rr 1 0 0) [.ref t, .int x] g (fun v g1 => v = some (.int (if thr D x = true then B x.toNatClampNeg else -1)) ∧ g1 = g) := by
  refine gh_of [some (.ref t), some (.int x)] (by decide) rfl (Nat.le_of_ble_eq_true rfl) (by simp [Value.category]) (fun z C hQ => ?_)
  show gh_W l d z 0 [some (.ref t), some (.int x)] [] g 0 0
  refine gh_aload_n C dT_bornAt_0 rfl ?_
  refine gh_iload_n C dT_bornAt_1 rfl ?_
  refine gh_callV C [.int x] (c_isThere l d g hp x) lT_35 wT_isThere vT_isThere hp.1 rfl rfl rfl (Nat.le_of_ble_eq_true rfl) ⟨Nat.le_of_ble_eq_true rfl, Nat.le_of_ble_eq_true rfl⟩ (Nat.le_of_ble_eq_true rfl) (Nat.le_of_ble_eq_true rfl) dT_bornAt_2 (fun v2 g2 h2 => ?_)
  obtain ⟨rfl, rfl⟩ := h2
  refine gh_if_eq C 17 dT_bornAt_5 (by decide) (fun c5 => ?_) (fun c5 => ?_)
  ·
    have hx : ¬ thr D x = true := fun h => by rw [if_pos h] at c5; exact absurd c5 (by decide)
    refine gh_iconst C (-1) dT_bornAt_17 (by decide) ?_
    refine gh_iret C hQ rfl dT_bornAt_18 ?_
    exact ⟨by first | (rw [if_neg hx]; done) | (rw [if_pos hx, nI_clamp (by omega)]; done), rfl⟩
  ·
    have hx : thr D x = true := by
      by_cases h : thr D x = true
      · exact h
      · rw [if_neg h] at c5; exact absurd rfl c5
    obtain ⟨j, hj, rfl⟩ := thr_of hp.2.2.2.2 hx
    have h31 := tW_le hp.2.2.2.2
    refine gh_aload_n C dT_bornAt_8 rfl ?_
    refine gh_get C fT_15 hp.1 rfl dT_bornAt_9 ?_
    refine gh_iload_n C dT_bornAt_12 rfl ?_
    refine gh_ialdN C (j) hp.2.2.1 rfl rfl ⟨by omega, by decide⟩ dT_bornAt_13 ?_
    refine gh_goto C 18 dT_bornAt_14 (by decide) ?_
    refine gh_iret C hQ rfl dT_bornAt_18 ?_
    exact ⟨by first | (rw [if_neg hx]; done) | (rw [if_pos hx, nI_clamp (by omega)]; done), rfl⟩
set_option maxRecDepth 100000 in
set_option maxHeartbeats 4000000 in
theorem c_unmergedAt (l : Launch) (d : gh_D) (g : gh_H) {e D t ka ba ua : Nat} {K B U : Nat → Int32} (hp : pT g e D t ka ba ua K B U) (x : Int32) : gh_C l d mT_unmergedAt (rr 1 0 0) [.ref t, .int x] g (fun v g1 => v = some (.int (if thr D x = true then U x.toNatClampNeg else 0)) ∧ g1 = g) := by
  refine gh_of [some (.ref t), some (.int x)] (by decide) rfl (Nat.le_of_ble_eq_true rfl) (by simp [Value.category]) (fun z C hQ => ?_)
  show gh_W l d z 0 [some (.ref t), some (.int x)] [] g 0 0
  refine gh_aload_n C dT_unmergedAt_0 rfl ?_
  refine gh_iload_n C dT_unmergedAt_1 rfl ?_
  refine gh_callV C [.int x] (c_isThere l d g hp x) lT_35 wT_isThere vT_isThere hp.1 rfl rfl rfl (Nat.le_of_ble_eq_true rfl) ⟨Nat.le_of_ble_eq_true rfl, Nat.le_of_ble_eq_true rfl⟩ (Nat.le_of_ble_eq_true rfl) (Nat.le_of_ble_eq_true rfl) dT_unmergedAt_2 (fun v2 g2 h2 => ?_)
  obtain ⟨rfl, rfl⟩ := h2
  refine gh_if_eq C 17 dT_unmergedAt_5 (by decide) (fun c5 => ?_) (fun c5 => ?_)
  ·
    have hx : ¬ thr D x = true := fun h => by rw [if_pos h] at c5; exact absurd c5 (by decide)
    refine gh_iconst C 0 dT_unmergedAt_17 (by decide) ?_
    refine gh_iret C hQ rfl dT_unmergedAt_18 ?_
    exact ⟨by first | (rw [if_neg hx]; done) | (rw [if_pos hx, nI_clamp (by omega)]; done), rfl⟩
  ·
    have hx : thr D x = true := by
      by_cases h : thr D x = true
      · exact h
      · rw [if_neg h] at c5; exact absurd rfl c5
    obtain ⟨j, hj, rfl⟩ := thr_of hp.2.2.2.2 hx
    have h31 := tW_le hp.2.2.2.2
    refine gh_aload_n C dT_unmergedAt_8 rfl ?_
    refine gh_get C fT_18 hp.1 rfl dT_unmergedAt_9 ?_
    refine gh_iload_n C dT_unmergedAt_12 rfl ?_
    refine gh_ialdN C (j) hp.2.2.2.1 rfl rfl ⟨by omega, by decide⟩ dT_unmergedAt_13 ?_
    refine gh_goto C 18 dT_unmergedAt_14 (by decide) ?_
    refine gh_iret C hQ rfl dT_unmergedAt_18 ?_
    exact ⟨by first | (rw [if_neg hx]; done) | (rw [if_pos hx, nI_clamp (by omega)]; done), rfl⟩
def tput (D : Nat) (f : Nat → Int32) (x v : Int32) : Nat → Int32 := if thr D x = true then upd f x.toNatClampNeg v else f
set_option maxRecDepth 100000 in
set_option maxHeartbeats 4000000 in
theorem c_give (l : Launch) (d : gh_D) (g : gh_H) {e D t ka ba ua : Nat} {K B U : Nat → Int32} (hp : pT g e D t ka ba ua K B U) (x k b : Int32) : gh_C l d mT_give (rr 1 0 0) [.ref t, .int x, .int k, .int b] g (fun v g1 => v = none ∧ g1 = tset g e ka ba ua (tput D K x k) (tput D B x b) (tput D U x 0)) := by
  refine gh_of [some (.ref t), some (.int x), some (.int k), some (.int b)] (by decide) rfl (Nat.le_of_ble_eq_true rfl) (by simp [Value.category]) (fun z C hQ => ?_)
  show gh_W l d z 0 [some (.ref t), some (.int x), some (.int k), some (.int b)] [] g 0 0
  refine gh_aload_n C dT_give_0 rfl ?_
  refine gh_iload_n C dT_give_1 rfl ?_
  refine gh_callV C [.int x] (c_isThere l d g hp x) lT_35 wT_isThere vT_isThere hp.1 rfl rfl rfl (Nat.le_of_ble_eq_true rfl) ⟨Nat.le_of_ble_eq_true rfl, Nat.le_of_ble_eq_true rfl⟩ (Nat.le_of_ble_eq_true rfl) (Nat.le_of_ble_eq_true rfl) dT_give_2 (fun v2 g2 h2 => ?_)
  obtain ⟨rfl, rfl⟩ := h2
  refine gh_if_eq C 29 dT_give_5 (by decide) (fun c5 => ?_) (fun c5 => ?_)
  ·
    have hx : ¬ thr D x = true := fun h => by rw [if_pos h] at c5; exact absurd c5 (by decide)
    refine gh_vret C hQ rfl dT_give_29 ?_
    exact ⟨rfl, by first | (simp only [tput, if_neg hx]; exact (tset_self hp).symm) | (simp only [tput, if_pos hx]; rw [nI_clamp (show j < 2 ^ 31 by omega)]; rfl)⟩
  ·
    have hx : thr D x = true := by
      by_cases h : thr D x = true
      · exact h
      · rw [if_neg h] at c5; exact absurd rfl c5
    obtain ⟨j, hj, rfl⟩ := thr_of hp.2.2.2.2 hx
    have h31 := tW_le hp.2.2.2.2
    refine gh_aload_n C dT_give_8 rfl ?_
    refine gh_get C fT_9 hp.1 rfl dT_give_9 ?_
    refine gh_iload_n C dT_give_12 rfl ?_
    refine gh_iload_n C dT_give_13 rfl ?_
    refine gh_iastN C (j) hp.2.1 rfl rfl ⟨by omega, by decide⟩ dT_give_14 ?_
    refine gh_aload_n C dT_give_15 rfl ?_
    refine gh_get C fT_15 ((gh_un (gh_kd (by decide))).trans hp.1) rfl dT_give_16 ?_
    refine gh_iload_n C dT_give_19 rfl ?_
    refine gh_iload_n C dT_give_20 rfl ?_
    refine gh_iastN C (j) ((gh_un (gh_kd (by decide))).trans hp.2.2.1) rfl rfl ⟨by omega, by decide⟩ dT_give_21 ?_
    refine gh_aload_n C dT_give_22 rfl ?_
    refine gh_get C fT_18 ((gh_un (gh_kd (by decide))).trans ((gh_un (gh_kd (by decide))).trans hp.1)) rfl dT_give_23 ?_
    refine gh_iload_n C dT_give_26 rfl ?_
    refine gh_iconst C 0 dT_give_27 (by decide) ?_
    refine gh_iastN C (j) ((gh_un (gh_kd (by decide))).trans ((gh_un (gh_kd (by decide))).trans hp.2.2.2.1)) rfl rfl ⟨by omega, by decide⟩ dT_give_28 ?_
    refine gh_vret C hQ rfl dT_give_29 ?_
    exact ⟨rfl, by first | (simp only [tput, if_neg hx]; exact (tset_self hp).symm) | (simp only [tput, if_pos hx]; rw [nI_clamp (show j < 2 ^ 31 by omega)]; rfl)⟩
set_option maxRecDepth 100000 in
set_option maxHeartbeats 4000000 in
theorem c_blank (l : Launch) (d : gh_D) (g : gh_H) {e D t ka ba ua : Nat} {K B U : Nat → Int32} (hp : pT g e D t ka ba ua K B U) (x : Int32) : gh_C l d mT_blank (rr 2 0 0) [.ref t, .int x] g (fun v g1 => v = none ∧ g1 = tset g e ka ba ua (tput D K x (-1)) (tput D B x (-1)) (tput D U x 0)) := by
  refine gh_of [some (.ref t), some (.int x)] (by decide) rfl (Nat.le_of_ble_eq_true rfl) (by simp [Value.category]) (fun z C hQ => ?_)
  show gh_W l d z 0 [some (.ref t), some (.int x)] [] g 0 0
  refine gh_aload_n C dT_blank_0 rfl ?_
  refine gh_iload_n C dT_blank_1 rfl ?_
  refine gh_iconst C (-1) dT_blank_2 (by decide) ?_
  refine gh_iconst C (-1) dT_blank_3 (by decide) ?_
  refine gh_callV C [.int x, .int (-1), .int (-1)] (c_give l d g hp x (-1) (-1)) lT_39 wT_give vT_give hp.1 rfl rfl rfl (Nat.le_of_ble_eq_true rfl) ⟨Nat.le_of_ble_eq_true rfl, Nat.le_of_ble_eq_true rfl⟩ (Nat.le_of_ble_eq_true rfl) (Nat.le_of_ble_eq_true rfl) dT_blank_4 (fun v4 g4 h4 => ?_)
  obtain ⟨rfl, rfl⟩ := h4
  refine gh_vret C hQ rfl dT_blank_7 ?_
  exact ⟨rfl, rfl⟩
