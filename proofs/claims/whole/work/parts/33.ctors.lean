theorem xC_1 : Cond.methodLink "java/util/Arrays" 316 ⟨"[I", "clone", "()Ljava/lang/Object;"⟩ ∈ gh_T := gh_in 571 (by decide +kernel) rfl
theorem xC_2 : Cond.sameMethod "[I" "java/lang/Object" "clone" "()Ljava/lang/Object;" ∈ gh_T := gh_in 572 (by decide +kernel) rfl
theorem xC_3 : Cond.native ⟨"java/lang/Object", "clone", "()Ljava/lang/Object;"⟩ ∈ gh_T := gh_in 232 (by decide +kernel) rfl
theorem xC_4 : Cond.instanceMethod ⟨"java/lang/Object", "clone", "()Ljava/lang/Object;"⟩ ∈ gh_T := gh_in 233 (by decide +kernel) rfl
theorem xC_5 : Cond.selects "[I" ⟨"[I", "clone", "()Ljava/lang/Object;"⟩ ⟨"java/lang/Object", "clone", "()Ljava/lang/Object;"⟩ ∈ gh_T := gh_in 573 (by decide +kernel) rfl
theorem xC_6 : Cond.castable "[I" "java/lang/Cloneable" ∈ gh_nw := List.mem_of_getElem? (i := 10) rfl
theorem xC_7 : Cond.classLink "java/util/Arrays" 317 "[I" ∈ gh_T := gh_in 575 (by decide +kernel) rfl
theorem arrV_fit (cA : ClassId) (n : Nat) (f : Nat → Int32) (i : Nat) (v : Value) (h : (vp_cell cA (n, .inl f)).slots[i]? = some v) : fits .int v = true := by
  rw [vp_cell_i] at h
  have hi : i < (arrV cA n (fun j => .int (f j))).slots.size := (Array.getElem?_eq_some_iff.mp h).1
  rw [arrV_size] at hi
  rw [arrV_read _ _ hi] at h
  cases h
  rfl
set_option maxRecDepth 100000 in
set_option maxHeartbeats 4000000 in
theorem c_cloneI (l : Launch) (d : gh_D) (g : gh_H) {a n : Nat} {K : gh_K} {f : Nat → Int32} (hg : g K = some (a, .inl (0, n, .inl f))) (hK : K ≠ (61, 0)) : gh_C l d mA_copyOf1 (rr 2 1 n) [.ref a, .int (nI n)] g (fun v g1 => ∃ q : Nat, v = some (.ref q) ∧ g1 = gh_u g (61, 0) (q, .inl (0, n, .inl f))) := by
  refine gh_of [some (.ref a), some (.int (nI n)), none] (by decide) rfl (Nat.le_of_ble_eq_true rfl) (by simp [Value.category]) (fun z C hQ => ?_)
  show gh_W l d z 0 [some (.ref a), some (.int (nI n)), none] [] g 1 n
  refine gh_iload_n C dA_copyOf1_0 rfl ?_
  refine gh_aload_n C dA_copyOf1_1 rfl ?_
  refine gh_alen C hg rfl dA_copyOf1_2 ?_
  refine gh_icmp_ne C 14 dA_copyOf1_3 (by decide) (fun c3 => ?_) (fun c3 => ?_)
  · exact absurd rfl c3
  ·
    refine gh_aload_n C dA_copyOf1_6 rfl ?_
    refine gh_clone C (61, 0) xC_1 xC_2 xC_3 xC_4 xC_5 xC_6 hg rfl (fun C1 h => by cases h) (by decide) (fun cA i v h => arrV_fit cA n f i v h) ⟨Nat.le_of_ble_eq_true rfl, Nat.le_of_ble_eq_true rfl⟩ (Nat.le_of_ble_eq_true rfl) 0 0 (Nat.le_refl 1) (by show 0 + n ≤ n; omega) dA_copyOf1_7 (fun q nq => ?_)
    refine gh_castA C xC_7 gh_us rfl (fun C1 h => by cases h) (by decide) dA_copyOf1_10 ?_
    refine gh_aret C hQ rfl (Or.inr ⟨_, rfl⟩) (Or.inr ⟨_, rfl⟩) dA_copyOf1_13 ?_
    exact ⟨q, rfl, rfl⟩
/-! constructors of trees, epochs, packages, proposals -/
def kT (k : Nat) : Bool := k == 13 || k == 14 || k == 15 || k == 16 || decide (60 ≤ k)
theorem fl31 (x : Int32) (f : Nat → Int32) (j : Nat) (h : j < 31) : fl 31 x f j = x := if_pos h
def pT0 (g : gh_H) (e D t ka ba ua : Nat) (K B U : Nat → Int32) : Prop := g (13, e) = some (t, .inr (4, [.int (nI D), .ref ka, .ref ba, .ref ua])) ∧ g (14, e) = some (ka, .inl (0, 31, .inl K)) ∧ g (15, e) = some (ba, .inl (0, 31, .inl B)) ∧ g (16, e) = some (ua, .inl (0, 31, .inl U))
set_option maxRecDepth 100000 in
set_option maxHeartbeats 4000000 in
theorem c_Tree0 (l : Launch) (d : gh_D) (g : gh_H) {e t : Nat} (hg : g (13, e) = some (t, .inr (4, [.int 0, .null, .null, .null]))) : gh_C l d mT_init0 (rr 1 3 93) [.ref t] g (fun v g1 => v = none ∧ (∃ ka ba ua : Nat, pT g1 e 0 t ka ba ua (fl 31 (-1) (fun _ => 0)) (fl 31 (-1) (fun _ => 0)) (fun _ => 0)) ∧ fr kT g g1) := by
  refine gh_of [some (.ref t)] (by decide) rfl (Nat.le_of_ble_eq_true rfl) (by simp [Value.category]) (fun z C hQ => ?_)
  show gh_W l d z 0 [some (.ref t)] [] g 3 93
  refine gh_aload_n C dT_init0_0 rfl ?_
  refine gh_obj C oT_3 oo_i oo_c (Nat.le_of_ble_eq_true rfl) ⟨Nat.le_of_ble_eq_true rfl, Nat.le_of_ble_eq_true rfl⟩ dT_init0_1 ?_
  refine gh_aload_n C dT_init0_4 rfl ?_
  refine gh_bipush C 31 dT_init0_5 (by decide) ?_
  refine gh_newaI C (14, e) (31) ⟨rfl, by decide⟩ 2 62 (by omega) (by omega) dT_init0_7 (fun ka nka => ?_)
  refine gh_putL C [.int 0, .ref ka, .null, .null] pT_9 (by decide) ((gh_un (gh_kd (by decide))).trans hg) rfl (by simp) rfl rfl dT_init0_9 ?_
  refine gh_aload_n C dT_init0_12 rfl ?_
  refine gh_bipush C 31 dT_init0_13 (by decide) ?_
  refine gh_newaI C (15, e) (31) ⟨rfl, by decide⟩ 1 31 (by omega) (by omega) dT_init0_15 (fun ba nba => ?_)
  refine gh_putL C [.int 0, .ref ka, .ref ba, .null] pT_15 (by decide) ((gh_un (gh_kd (by decide))).trans gh_us) rfl (by simp) rfl rfl dT_init0_17 ?_
  refine gh_aload_n C dT_init0_20 rfl ?_
  refine gh_bipush C 31 dT_init0_21 (by decide) ?_
  refine gh_newaI C (16, e) (31) ⟨rfl, by decide⟩ 0 0 (by omega) (by omega) dT_init0_23 (fun ua nua => ?_)
  refine gh_putL C [.int 0, .ref ka, .ref ba, .ref ua] pT_18 (by decide) ((gh_un (gh_kd (by decide))).trans gh_us) rfl (by simp) rfl rfl dT_init0_25 ?_
  refine gh_aload_n C dT_init0_28 rfl ?_
  refine gh_get C fT_9 gh_us rfl dT_init0_29 ?_
  refine gh_iconst C (-1) dT_init0_32 (by decide) ?_
  refine gh_callS C [.ref ka, .int (-1)] (c_fill l d _ (-1) ((gh_un (gh_kd (by decide))).trans ((gh_un (gh_kd (by decide))).trans ((gh_un (gh_kd (by decide))).trans ((gh_un (gh_kd (by decide))).trans ((gh_un (gh_kd (by decide))).trans gh_us))))) (by decide)) lT_21 wA_fill sA_fill rfl rfl (Nat.le_of_ble_eq_true rfl) ⟨Nat.le_of_ble_eq_true rfl, Nat.le_of_ble_eq_true rfl⟩ (Nat.le_of_ble_eq_true rfl) (Nat.le_of_ble_eq_true rfl) dT_init0_33 (fun v33 g33 h33 => ?_)
  obtain ⟨rfl, rfl⟩ := h33
  refine gh_aload_n C dT_init0_36 rfl ?_
  refine gh_get C fT_15 ((gh_un (gh_kd (by decide))).trans gh_us) rfl dT_init0_37 ?_
  refine gh_iconst C (-1) dT_init0_40 (by decide) ?_
  refine gh_callS C [.ref ba, .int (-1)] (c_fill l d _ (-1) ((gh_un (gh_kd (by decide))).trans ((gh_un (gh_kd (by decide))).trans ((gh_un (gh_kd (by decide))).trans ((gh_un (gh_kd (by decide))).trans gh_us)))) (by decide)) lT_21 wA_fill sA_fill rfl rfl (Nat.le_of_ble_eq_true rfl) ⟨Nat.le_of_ble_eq_true rfl, Nat.le_of_ble_eq_true rfl⟩ (Nat.le_of_ble_eq_true rfl) (Nat.le_of_ble_eq_true rfl) dT_init0_41 (fun v41 g41 h41 => ?_)
  obtain ⟨rfl, rfl⟩ := h41
  refine gh_vret C hQ rfl dT_init0_44 ?_
  exact ⟨rfl, ⟨ka, ba, ua, ((gh_un (gh_kd (by decide))).trans ((gh_un (gh_kd (by decide))).trans gh_us)), ((gh_un (gh_kd (by decide))).trans gh_us), gh_us, ((gh_un (gh_kd (by decide))).trans ((gh_un (gh_kd (by decide))).trans ((gh_un (gh_kd (by decide))).trans gh_us))), by decide⟩, ((((((((fr.rf.u rfl).u rfl).u rfl).u rfl).u rfl).u rfl).u rfl).u rfl)⟩
set_option maxRecDepth 100000 in
set_option maxHeartbeats 4000000 in
theorem c_Tree1 (l : Launch) (d : gh_D) (g : gh_H) {e t e0 D t0 ka ba ua : Nat} {K B U : Nat → Int32} (hp : pT g e0 D t0 ka ba ua K B U) (he : e0 ≠ e) (hg : g (13, e) = some (t, .inr (4, [.int 0, .null, .null, .null]))) : gh_C l d mT_init1 (rr 3 3 93) [.ref t, .ref t0] g (fun v g1 => v = none ∧ (∃ kb bb ub : Nat, pT g1 e D t kb bb ub K B U) ∧ fr kT g g1 ∧ (∀ i : Nat, i ≠ e → g1 (13, i) = g (13, i) ∧ g1 (14, i) = g (14, i) ∧ g1 (15, i) = g (15, i) ∧ g1 (16, i) = g (16, i))) := by
  refine gh_of [some (.ref t), some (.ref t0)] (by decide) rfl (Nat.le_of_ble_eq_true rfl) (by simp [Value.category]) (fun z C hQ => ?_)
  show gh_W l d z 0 [some (.ref t), some (.ref t0)] [] g 3 93
  refine gh_aload_n C dT_init1_0 rfl ?_
  refine gh_obj C oT_3 oo_i oo_c (Nat.le_of_ble_eq_true rfl) ⟨Nat.le_of_ble_eq_true rfl, Nat.le_of_ble_eq_true rfl⟩ dT_init1_1 ?_
  refine gh_aload_n C dT_init1_4 rfl ?_
  refine gh_aload_n C dT_init1_5 rfl ?_
  refine gh_get C fT_27 hp.1 rfl dT_init1_6 ?_
  refine gh_putL C [.int (nI D), .null, .null, .null] pT_27 (by decide) hg rfl (by simp) rfl rfl dT_init1_9 ?_
  refine gh_aload_n C dT_init1_12 rfl ?_
  refine gh_aload_n C dT_init1_13 rfl ?_
  refine gh_get C fT_9 ((gh_un (gh_kx (by omega))).trans hp.1) rfl dT_init1_14 ?_
  refine gh_bipush C 31 dT_init1_17 (by decide) ?_
  refine gh_callS C [.ref ka, .int 31] (c_cloneI l d _ ((gh_un (gh_kd (by decide))).trans hp.2.1) (gh_kd (by decide))) lT_31 wA_copyOf1 sA_copyOf1 rfl rfl (Nat.le_of_ble_eq_true rfl) ⟨Nat.le_of_ble_eq_true rfl, Nat.le_of_ble_eq_true rfl⟩ (by dsimp only [rr]; omega) (by dsimp only [rr]; omega) dT_init1_19 (fun v19 g19 h19 => ?_)
  obtain ⟨q1, rfl, rfl⟩ := h19
  refine gh_putL C [.int (nI D), .ref q1, .null, .null] pT_9 (by decide) ((gh_un (gh_kd (by decide))).trans gh_us) rfl (by simp) rfl rfl dT_init1_22 ?_
  refine gh_move C (61, 0) (14, e) ?_
  refine gh_aload_n C dT_init1_25 rfl ?_
  refine gh_aload_n C dT_init1_26 rfl ?_
  refine gh_get C fT_15 ((gh_mv_o (gh_kd (by decide)) (gh_kd (by decide))).trans ((gh_un (gh_kx (by omega))).trans ((gh_un (gh_kd (by decide))).trans ((gh_un (gh_kx (by omega))).trans hp.1)))) rfl dT_init1_27 ?_
  refine gh_bipush C 31 dT_init1_30 (by decide) ?_
  refine gh_callS C [.ref ba, .int 31] (c_cloneI l d _ ((gh_mv_o (gh_kd (by decide)) (gh_kd (by decide))).trans ((gh_un (gh_kd (by decide))).trans ((gh_un (gh_kd (by decide))).trans ((gh_un (gh_kd (by decide))).trans hp.2.2.1)))) (gh_kd (by decide))) lT_31 wA_copyOf1 sA_copyOf1 rfl rfl (Nat.le_of_ble_eq_true rfl) ⟨Nat.le_of_ble_eq_true rfl, Nat.le_of_ble_eq_true rfl⟩ (by dsimp only [rr]; omega) (by dsimp only [rr]; omega) dT_init1_32 (fun v32 g32 h32 => ?_)
  obtain ⟨q2, rfl, rfl⟩ := h32
  refine gh_putL C [.int (nI D), .ref q1, .ref q2, .null] pT_15 (by decide) ((gh_un (gh_kd (by decide))).trans ((gh_mv_o (gh_kd (by decide)) (gh_kd (by decide))).trans gh_us)) rfl (by simp) rfl rfl dT_init1_35 ?_
  refine gh_move C (61, 0) (15, e) ?_
  refine gh_aload_n C dT_init1_38 rfl ?_
  refine gh_aload_n C dT_init1_39 rfl ?_
  refine gh_get C fT_18 ((gh_mv_o (gh_kd (by decide)) (gh_kd (by decide))).trans ((gh_un (gh_kx (by omega))).trans ((gh_un (gh_kd (by decide))).trans ((gh_mv_o (gh_kd (by decide)) (gh_kd (by decide))).trans ((gh_un (gh_kx (by omega))).trans ((gh_un (gh_kd (by decide))).trans ((gh_un (gh_kx (by omega))).trans hp.1))))))) rfl dT_init1_40 ?_
  refine gh_bipush C 31 dT_init1_43 (by decide) ?_
  refine gh_callS C [.ref ua, .int 31] (c_cloneI l d _ ((gh_mv_o (gh_kd (by decide)) (gh_kd (by decide))).trans ((gh_un (gh_kd (by decide))).trans ((gh_un (gh_kd (by decide))).trans ((gh_mv_o (gh_kd (by decide)) (gh_kd (by decide))).trans ((gh_un (gh_kd (by decide))).trans ((gh_un (gh_kd (by decide))).trans ((gh_un (gh_kd (by decide))).trans hp.2.2.2.1))))))) (gh_kd (by decide))) lT_31 wA_copyOf1 sA_copyOf1 rfl rfl (Nat.le_of_ble_eq_true rfl) ⟨Nat.le_of_ble_eq_true rfl, Nat.le_of_ble_eq_true rfl⟩ (by dsimp only [rr]; omega) (by dsimp only [rr]; omega) dT_init1_45 (fun v45 g45 h45 => ?_)
  obtain ⟨q3, rfl, rfl⟩ := h45
  refine gh_putL C [.int (nI D), .ref q1, .ref q2, .ref q3] pT_18 (by decide) ((gh_un (gh_kd (by decide))).trans ((gh_mv_o (gh_kd (by decide)) (gh_kd (by decide))).trans gh_us)) rfl (by simp) rfl rfl dT_init1_48 ?_
  refine gh_move C (61, 0) (16, e) ?_
  refine gh_vret C hQ rfl dT_init1_51 ?_
  refine ⟨rfl, ⟨q1, q2, q3, ((gh_mv_o (gh_kd (by decide)) (gh_kd (by decide))).trans gh_us), ((gh_mv_o (gh_kd (by decide)) (gh_kd (by decide))).trans ((gh_un (gh_kd (by decide))).trans ((gh_un (gh_kd (by decide))).trans ((gh_mv_o (gh_kd (by decide)) (gh_kd (by decide))).trans ((gh_un (gh_kd (by decide))).trans ((gh_un (gh_kd (by decide))).trans (gh_mv_k.trans ((gh_un (gh_kd (by decide))).trans gh_us)))))))), ((gh_mv_o (gh_kd (by decide)) (gh_kd (by decide))).trans ((gh_un (gh_kd (by decide))).trans ((gh_un (gh_kd (by decide))).trans (gh_mv_k.trans ((gh_un (gh_kd (by decide))).trans gh_us))))), (gh_mv_k.trans ((gh_un (gh_kd (by decide))).trans gh_us)), hp.2.2.2.2⟩, ((((((((((fr.rf.u rfl).u rfl).u rfl).mv rfl rfl).u rfl).u rfl).mv rfl rfl).u rfl).u rfl).mv rfl rfl), fun i hi => ?_⟩
  simp [gh_mv, gh_u, hi]
set_option maxRecDepth 100000 in
set_option maxHeartbeats 4000000 in
theorem c_Epoch (l : Launch) (d : gh_D) (g : gh_H) {e a t : Nat} (x y : Int32) (hg : g (12, e) = some (a, .inr (3, [.int 0, .null, .int 0, .int 0, .int 0, .int 0, .int 0, .int 0, .int 0]))) : gh_C l d mE_init (rr 1 0 0) [.ref a, .int x, .ref t, .int y] g (fun v g1 => v = none ∧ g1 = gh_u g (12, e) (a, .inr (3, [.int x, .ref t, .int y, .int (-1), .int 0, .int 0, .int 0, .int 0, .int 0]))) := by
  refine gh_of [some (.ref a), some (.int x), some (.ref t), some (.int y)] (by decide) rfl (Nat.le_of_ble_eq_true rfl) (by simp [Value.category]) (fun z C hQ => ?_)
  show gh_W l d z 0 [some (.ref a), some (.int x), some (.ref t), some (.int y)] [] g 0 0
  refine gh_aload_n C dE_init_0 rfl ?_
  refine gh_obj C oE_3 oo_i oo_c (Nat.le_of_ble_eq_true rfl) ⟨Nat.le_of_ble_eq_true rfl, Nat.le_of_ble_eq_true rfl⟩ dE_init_1 ?_
  refine gh_aload_n C dE_init_4 rfl ?_
  refine gh_iconst C (-1) dE_init_5 (by decide) ?_
  refine gh_putL C [.int 0, .null, .int 0, .int (-1), .int 0, .int 0, .int 0, .int 0, .int 0] pE_9 (by decide) hg rfl (by simp) rfl rfl dE_init_6 ?_
  refine gh_aload_n C dE_init_9 rfl ?_
  refine gh_iload_n C dE_init_10 rfl ?_
  refine gh_putL C [.int x, .null, .int 0, .int (-1), .int 0, .int 0, .int 0, .int 0, .int 0] pE_15 (by decide) gh_us rfl (by simp) rfl rfl dE_init_11 ?_
  refine gh_aload_n C dE_init_14 rfl ?_
  refine gh_aload_n C dE_init_15 rfl ?_
  refine gh_putL C [.int x, .ref t, .int 0, .int (-1), .int 0, .int 0, .int 0, .int 0, .int 0] pE_18 (by decide) gh_us rfl (by simp) rfl rfl dE_init_16 ?_
  refine gh_aload_n C dE_init_19 rfl ?_
  refine gh_iload_n C dE_init_20 rfl ?_
  refine gh_putL C [.int x, .ref t, .int y, .int (-1), .int 0, .int 0, .int 0, .int 0, .int 0] pE_22 (by decide) gh_us rfl (by simp) rfl rfl dE_init_21 ?_
  refine gh_vret C hQ rfl dE_init_24 ?_
  exact ⟨rfl, by rw [gh_uu, gh_uu, gh_uu]⟩
set_option maxRecDepth 100000 in
set_option maxHeartbeats 4000000 in
theorem c_KeyPackage (l : Launch) (d : gh_D) (g : gh_H) {p a : Nat} (x y w : Int32) (hg : g (18, p) = some (a, .inr (5, [.int 0, .int 0, .int 0, .int 0, .int 0, .int 0]))) : gh_C l d mK_init (rr 1 0 0) [.ref a, .int x, .int y, .int w] g (fun v g1 => v = none ∧ g1 = gh_u g (18, p) (a, .inr (5, [.int x, .int y, .int w, .int (-1), .int (-1), .int 0]))) := by
  refine gh_of [some (.ref a), some (.int x), some (.int y), some (.int w)] (by decide) rfl (Nat.le_of_ble_eq_true rfl) (by simp [Value.category]) (fun z C hQ => ?_)
  show gh_W l d z 0 [some (.ref a), some (.int x), some (.int y), some (.int w)] [] g 0 0
  refine gh_aload_n C dK_init_0 rfl ?_
  refine gh_obj C oK_3 oo_i oo_c (Nat.le_of_ble_eq_true rfl) ⟨Nat.le_of_ble_eq_true rfl, Nat.le_of_ble_eq_true rfl⟩ dK_init_1 ?_
  refine gh_aload_n C dK_init_4 rfl ?_
  refine gh_iconst C (-1) dK_init_5 (by decide) ?_
  refine gh_putL C [.int 0, .int 0, .int 0, .int (-1), .int 0, .int 0] pK_9 (by decide) hg rfl (by simp) rfl rfl dK_init_6 ?_
  refine gh_aload_n C dK_init_9 rfl ?_
  refine gh_iconst C (-1) dK_init_10 (by decide) ?_
  refine gh_putL C [.int 0, .int 0, .int 0, .int (-1), .int (-1), .int 0] pK_15 (by decide) gh_us rfl (by simp) rfl rfl dK_init_11 ?_
  refine gh_aload_n C dK_init_14 rfl ?_
  refine gh_iload_n C dK_init_15 rfl ?_
  refine gh_putL C [.int x, .int 0, .int 0, .int (-1), .int (-1), .int 0] pK_18 (by decide) gh_us rfl (by simp) rfl rfl dK_init_16 ?_
  refine gh_aload_n C dK_init_19 rfl ?_
  refine gh_iload_n C dK_init_20 rfl ?_
  refine gh_putL C [.int x, .int y, .int 0, .int (-1), .int (-1), .int 0] pK_21 (by decide) gh_us rfl (by simp) rfl rfl dK_init_21 ?_
  refine gh_aload_n C dK_init_24 rfl ?_
  refine gh_iload_n C dK_init_25 rfl ?_
  refine gh_putL C [.int x, .int y, .int w, .int (-1), .int (-1), .int 0] pK_24 (by decide) gh_us rfl (by simp) rfl rfl dK_init_26 ?_
  refine gh_vret C hQ rfl dK_init_29 ?_
  exact ⟨rfl, by rw [gh_uu, gh_uu, gh_uu, gh_uu]⟩
set_option maxRecDepth 100000 in
set_option maxHeartbeats 4000000 in
theorem c_Proposal (l : Launch) (d : gh_D) (g : gh_H) {p a : Nat} (x y w : Int32) (hg : g (62, p) = some (a, .inr (6, [.int 0, .int 0, .int 0]))) : gh_C l d mP_init (rr 1 0 0) [.ref a, .int x, .int y, .int w] g (fun v g1 => v = none ∧ g1 = gh_u g (62, p) (a, .inr (6, [.int x, .int y, .int w]))) := by
  refine gh_of [some (.ref a), some (.int x), some (.int y), some (.int w)] (by decide) rfl (Nat.le_of_ble_eq_true rfl) (by simp [Value.category]) (fun z C hQ => ?_)
  show gh_W l d z 0 [some (.ref a), some (.int x), some (.int y), some (.int w)] [] g 0 0
  refine gh_aload_n C dP_init_0 rfl ?_
  refine gh_obj C oP_1 oo_i oo_c (Nat.le_of_ble_eq_true rfl) ⟨Nat.le_of_ble_eq_true rfl, Nat.le_of_ble_eq_true rfl⟩ dP_init_1 ?_
  refine gh_aload_n C dP_init_4 rfl ?_
  refine gh_iload_n C dP_init_5 rfl ?_
  refine gh_putL C [.int x, .int 0, .int 0] pP_7 (by decide) hg rfl (by simp) rfl rfl dP_init_6 ?_
  refine gh_aload_n C dP_init_9 rfl ?_
  refine gh_iload_n C dP_init_10 rfl ?_
  refine gh_putL C [.int x, .int y, .int 0] pP_13 (by decide) gh_us rfl (by simp) rfl rfl dP_init_11 ?_
  refine gh_aload_n C dP_init_14 rfl ?_
  refine gh_iload_n C dP_init_15 rfl ?_
  refine gh_putL C [.int x, .int y, .int w] pP_16 (by decide) gh_us rfl (by simp) rfl rfl dP_init_16 ?_
  refine gh_vret C hQ rfl dP_init_19 ?_
  exact ⟨rfl, by rw [gh_uu, gh_uu]⟩
