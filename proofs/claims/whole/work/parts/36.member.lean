/-! MEMBERS. Member m (key (8, m)): epoch, leaf, secret, stuck, keys f (5) at (9, m), updates u (20) at (10, m), uc of them -/
def pM (g : gh_H) (m a ka ua : Nat) (ep lf sec stk : Int32) (uc : Nat) (f u : Nat → Int32) : Prop := g (8, m) = some (a, .inr (2, [.int ep, .int lf, .int sec, .int stk, .ref ka, .ref ua, .int (nI uc)])) ∧ g (9, m) = some (ka, .inl (0, 5, .inl f)) ∧ g (10, m) = some (ua, .inl (0, 20, .inl u))
def mst (g : gh_H) (m a ka ua : Nat) (ep lf sec stk : Int32) (uc : Nat) (f : Nat → Int32) : gh_H := gh_u (gh_u g (9, m) (ka, .inl (0, 5, .inl f))) (8, m) (a, .inr (2, [.int ep, .int lf, .int sec, .int stk, .ref ka, .ref ua, .int (nI uc)]))
theorem mst_pM {g : gh_H} {m a ka ua uc uc1 : Nat} {ep lf sec stk ep1 lf1 sec1 stk1 : Int32} {f f1 u : Nat → Int32} (h : pM g m a ka ua ep lf sec stk uc f u) : pM (mst g m a ka ua ep1 lf1 sec1 stk1 uc1 f1) m a ka ua ep1 lf1 sec1 stk1 uc1 f1 u := by
  unfold mst
  refine ⟨gh_us, ?_, ?_⟩
  · rw [gh_un (gh_kd (by decide)), gh_us]
  · rw [gh_un (gh_kd (by decide)), gh_un (gh_kd (by decide))]; exact h.2.2
theorem mst_self {g : gh_H} {m a ka ua uc : Nat} {ep lf sec stk : Int32} {f u : Nat → Int32} (h : pM g m a ka ua ep lf sec stk uc f u) : mst g m a ka ua ep lf sec stk uc f = g := by
  unfold mst; rw [gh_uself h.2.1, gh_uself h.1]
theorem mst_mst (g : gh_H) (m a ka ua uc uc1 : Nat) (ep lf sec stk ep1 lf1 sec1 stk1 : Int32) (f f1 : Nat → Int32) : mst (mst g m a ka ua ep lf sec stk uc f) m a ka ua ep1 lf1 sec1 stk1 uc1 f1 = mst g m a ka ua ep1 lf1 sec1 stk1 uc1 f1 := by
  funext q
  unfold mst gh_u
  by_cases h8 : q = (8, m) <;> by_cases h9 : q = (9, m) <;> simp_all
theorem mst_8 {g : gh_H} {m a ka ua uc : Nat} {ep lf sec stk : Int32} {f : Nat → Int32} (uc1 : Nat) (ep1 lf1 sec1 stk1 : Int32) : gh_u (mst g m a ka ua ep lf sec stk uc f) (8, m) (a, .inr (2, [.int ep1, .int lf1, .int sec1, .int stk1, .ref ka, .ref ua, .int (nI uc1)])) = mst g m a ka ua ep1 lf1 sec1 stk1 uc1 f := by unfold mst; rw [gh_uu]
theorem mst_9 {g : gh_H} {m a ka ua uc : Nat} {ep lf sec stk : Int32} {f : Nat → Int32} (f1 : Nat → Int32) : gh_u (mst g m a ka ua ep lf sec stk uc f) (9, m) (ka, .inl (0, 5, .inl f1)) = mst g m a ka ua ep lf sec stk uc f1 := by
  unfold mst
  rw [gh_swap (gh_kd (by decide)), gh_uu]
theorem mst_o {g : gh_H} {m a ka ua uc : Nat} {ep lf sec stk : Int32} {f : Nat → Int32} {k : gh_K} (h8 : k ≠ (8, m)) (h9 : k ≠ (9, m)) : mst g m a ka ua ep lf sec stk uc f k = g k := by unfold mst; rw [gh_un h8, gh_un h9]
theorem mst_pT {g : gh_H} {m a ka ua uc : Nat} {ep lf sec stk : Int32} {f : Nat → Int32} {e D t xa xb xc : Nat} {K B U : Nat → Int32} (h : pT g e D t xa xb xc K B U) : pT (mst g m a ka ua ep lf sec stk uc f) e D t xa xb xc K B U :=
  ⟨(mst_o (gh_kd (by decide)) (gh_kd (by decide))).trans h.1, (mst_o (gh_kd (by decide)) (gh_kd (by decide))).trans h.2.1, (mst_o (gh_kd (by decide)) (gh_kd (by decide))).trans h.2.2.1, (mst_o (gh_kd (by decide)) (gh_kd (by decide))).trans h.2.2.2.1, h.2.2.2.2⟩
/-- an epoch's object -/
def pE (g : gh_H) (e x t : Nat) (num cl sec cn rm up ad en : Int32) : Prop := g (12, e) = some (x, .inr (3, [.int num, .ref t, .int cl, .int sec, .int cn, .int rm, .int up, .int ad, .int en]))
theorem mst_pE {g : gh_H} {m a ka ua uc : Nat} {ep lf sec stk : Int32} {f : Nat → Int32} {e x t : Nat} {num cl es cn rm up ad en : Int32} (h : pE g e x t num cl es cn rm up ad en) : pE (mst g m a ka ua ep lf sec stk uc f) e x t num cl es cn rm up ad en := (mst_o (gh_kd (by decide)) (gh_kd (by decide))).trans h
def tk (D : Nat) (K : Nat → Int32) (v : Nat) : Int32 := if v < tW D then K v else -1
theorem tk_n {D v : Nat} (hD : D ≤ 4) (hv : v < 31) (K : Nat → Int32) : (if thr D (nI v) = true then K (nI v).toNatClampNeg else -1) = tk D K v := by
  rw [thr_n hD (by omega)]
  unfold tk
  by_cases h : v < tW D
  · rw [if_pos (by simpa using h), if_pos h, nI_clamp (by omega)]
  · rw [if_neg (by simpa using h), if_neg h]
theorem xB_max : Cond.methodLink "RatchetGroup$Member" 99 Lib.Math.max.name ∈ gh_T := gh_in 700 (by decide +kernel) rfl
set_option maxRecDepth 100000 in
set_option maxHeartbeats 4000000 in
theorem c_Member (l : Launch) (d : gh_D) (g : gh_H) {m a : Nat} (hg : g (8, m) = some (a, .inr (2, [.int 0, .int 0, .int 0, .int 0, .null, .null, .int 0]))) : gh_C l d mB_init (rr 1 2 25) [.ref a] g (fun v g1 => v = none ∧ ∃ ka ua : Nat, g1 = gh_u (gh_u (gh_u g (9, m) (ka, .inl (0, 5, .inl (fl 5 (-1) (fun _ => 0))))) (10, m) (ua, .inl (0, 20, .inl (fun _ => 0)))) (8, m) (a, .inr (2, [.int (-1), .int (-1), .int (-1), .int 0, .ref ka, .ref ua, .int (nI 0)]))) := by
  refine gh_of [some (.ref a)] (by decide) rfl (Nat.le_of_ble_eq_true rfl) (by simp [Value.category]) (fun z C hQ => ?_)
  show gh_W l d z 0 [some (.ref a)] [] g 2 25
  refine gh_aload_n C dB_init_0 rfl ?_
  refine gh_obj C oB_3 oo_i oo_c (Nat.le_of_ble_eq_true rfl) ⟨Nat.le_of_ble_eq_true rfl, Nat.le_of_ble_eq_true rfl⟩ dB_init_1 ?_
  refine gh_aload_n C dB_init_4 rfl ?_
  refine gh_iconst C (-1) dB_init_5 (by decide) ?_
  refine gh_putL C [.int (-1), .int 0, .int 0, .int 0, .null, .null, .int 0] pB_9 (by decide) hg rfl (by simp) rfl rfl dB_init_6 ?_
  refine gh_aload_n C dB_init_9 rfl ?_
  refine gh_iconst C (-1) dB_init_10 (by decide) ?_
  refine gh_putL C [.int (-1), .int (-1), .int 0, .int 0, .null, .null, .int 0] pB_15 (by decide) gh_us rfl (by simp) rfl rfl dB_init_11 ?_
  refine gh_aload_n C dB_init_14 rfl ?_
  refine gh_iconst C (-1) dB_init_15 (by decide) ?_
  refine gh_putL C [.int (-1), .int (-1), .int (-1), .int 0, .null, .null, .int 0] pB_18 (by decide) gh_us rfl (by simp) rfl rfl dB_init_16 ?_
  refine gh_aload_n C dB_init_19 rfl ?_
  refine gh_iconst C 5 dB_init_20 (by decide) ?_
  refine gh_newaI C (9, m) (5) ⟨rfl, by decide⟩ 1 20 (by omega) (by omega) dB_init_21 (fun ka nka => ?_)
  refine gh_putL C [.int (-1), .int (-1), .int (-1), .int 0, .ref ka, .null, .int 0] pB_21 (by decide) ((gh_un (gh_kd (by decide))).trans gh_us) rfl (by simp) rfl rfl dB_init_23 ?_
  refine gh_aload_n C dB_init_26 rfl ?_
  refine gh_bipush C 20 dB_init_27 (by decide) ?_
  refine gh_newaI C (10, m) (20) ⟨rfl, by decide⟩ 0 0 (by omega) (by omega) dB_init_29 (fun ua nua => ?_)
  refine gh_putL C [.int (-1), .int (-1), .int (-1), .int 0, .ref ka, .ref ua, .int 0] pB_25 (by decide) ((gh_un (gh_kd (by decide))).trans gh_us) rfl (by simp) rfl rfl dB_init_31 ?_
  refine gh_aload_n C dB_init_34 rfl ?_
  refine gh_get C fB_21 gh_us rfl dB_init_35 ?_
  refine gh_iconst C (-1) dB_init_38 (by decide) ?_
  refine gh_callS C [.ref ka, .int (-1)] (c_fill l d _ (-1) ((gh_un (gh_kd (by decide))).trans ((gh_un (gh_kd (by decide))).trans ((gh_un (gh_kd (by decide))).trans gh_us))) (by decide)) lB_28 wA_fill sA_fill rfl rfl (Nat.le_of_ble_eq_true rfl) ⟨Nat.le_of_ble_eq_true rfl, Nat.le_of_ble_eq_true rfl⟩ (Nat.le_of_ble_eq_true rfl) (Nat.le_of_ble_eq_true rfl) dB_init_39 (fun v39 g39 h39 => ?_)
  obtain ⟨rfl, rfl⟩ := h39
  refine gh_vret C hQ rfl dB_init_42 ?_
  refine ⟨rfl, ka, ua, ?_⟩
  funext q
  unfold gh_u
  by_cases h8 : q = (8, m) <;> by_cases h9 : q = (9, m) <;> by_cases h10 : q = (10, m) <;> simp_all
  all_goals rfl
set_option maxRecDepth 100000 in
set_option maxHeartbeats 4000000 in
theorem c_keepUpdate (l : Launch) (d : gh_D) (g : gh_H) {m a ka ua uc : Nat} {ep lf sec stk : Int32} {f u : Nat → Int32} (hm : pM g m a ka ua ep lf sec stk uc f u) (y : Int32) (hu : uc < 20) : gh_C l d mB_keepUpdate (rr 0 0 0) [.ref a, .int y] g (fun v g1 => v = none ∧ g1 = gh_u (gh_u g (10, m) (ua, .inl (0, 20, .inl (upd u uc y)))) (8, m) (a, .inr (2, [.int ep, .int lf, .int sec, .int stk, .ref ka, .ref ua, .int (nI (uc + 1))]))) := by
  refine gh_of [some (.ref a), some (.int y)] (by decide) rfl (Nat.le_of_ble_eq_true rfl) (by simp [Value.category]) (fun z C hQ => ?_)
  show gh_W l d z 0 [some (.ref a), some (.int y)] [] g 0 0
  refine gh_aload_n C dB_keepUpdate_0 rfl ?_
  refine gh_get C fB_34 hm.1 rfl dB_keepUpdate_1 ?_
  refine gh_bipush C 20 dB_keepUpdate_4 (by decide) ?_
  refine gh_icmp_ge C 29 dB_keepUpdate_6 (by decide) (fun c6 => ?_) (fun c6 => ?_)
  · exact absurd c6 (show ¬ nI 20 ≤ nI uc from nI_ge hu (by omega))
  ·
    refine gh_aload_n C dB_keepUpdate_9 rfl ?_
    refine gh_get C fB_25 hm.1 rfl dB_keepUpdate_10 ?_
    refine gh_aload_n C dB_keepUpdate_13 rfl ?_
    refine gh_get C fB_34 hm.1 rfl dB_keepUpdate_14 ?_
    refine gh_iload_n C dB_keepUpdate_17 rfl ?_
    refine gh_iastN C (uc) hm.2.2 rfl rfl ⟨hu, by decide⟩ dB_keepUpdate_18 ?_
    refine gh_aload_n C dB_keepUpdate_19 rfl ?_
    refine gh_dup C dB_keepUpdate_20 rfl ?_
    refine gh_get C fB_34 ((gh_un (gh_kd (by decide))).trans hm.1) rfl dB_keepUpdate_21 ?_
    refine gh_iconst C 1 dB_keepUpdate_24 (by decide) ?_
    refine gh_iadd C dB_keepUpdate_25 ?_
    refine gh_ti (nI (uc + 1)) (nI_1 uc) ?_
    refine gh_putL C [.int ep, .int lf, .int sec, .int stk, .ref ka, .ref ua, .int (nI (uc + 1))] pB_34 (by decide) ((gh_un (gh_kd (by decide))).trans hm.1) rfl (by simp) rfl rfl dB_keepUpdate_26 ?_
    refine gh_vret C hQ rfl dB_keepUpdate_29 ?_
    exact ⟨rfl, rfl⟩
set_option maxRecDepth 100000 in
set_option maxHeartbeats 4000000 in
theorem c_leave (l : Launch) (d : gh_D) (g : gh_H) {m a ka ua uc : Nat} {ep lf sec stk : Int32} {f u : Nat → Int32} (hm : pM g m a ka ua ep lf sec stk uc f u) : gh_C l d mB_leave (rr 1 0 0) [.ref a] g (fun v g1 => v = none ∧ g1 = mst g m a ka ua (-1) (-1) (-1) stk 0 (fl 5 (-1) f)) := by
  refine gh_of [some (.ref a)] (by decide) rfl (Nat.le_of_ble_eq_true rfl) (by simp [Value.category]) (fun z C hQ => ?_)
  show gh_W l d z 0 [some (.ref a)] [] g 0 0
  refine gh_aload_n C dB_leave_0 rfl ?_
  refine gh_iconst C (-1) dB_leave_1 (by decide) ?_
  refine gh_putL C [.int (-1), .int lf, .int sec, .int stk, .ref ka, .ref ua, .int (nI uc)] pB_9 (by decide) hm.1 rfl (by simp) rfl rfl dB_leave_2 ?_
  refine gh_aload_n C dB_leave_5 rfl ?_
  refine gh_iconst C (-1) dB_leave_6 (by decide) ?_
  refine gh_putL C [.int (-1), .int (-1), .int sec, .int stk, .ref ka, .ref ua, .int (nI uc)] pB_15 (by decide) gh_us rfl (by simp) rfl rfl dB_leave_7 ?_
  refine gh_aload_n C dB_leave_10 rfl ?_
  refine gh_iconst C (-1) dB_leave_11 (by decide) ?_
  refine gh_putL C [.int (-1), .int (-1), .int (-1), .int stk, .ref ka, .ref ua, .int (nI uc)] pB_18 (by decide) gh_us rfl (by simp) rfl rfl dB_leave_12 ?_
  refine gh_aload_n C dB_leave_15 rfl ?_
  refine gh_iconst C 0 dB_leave_16 (by decide) ?_
  refine gh_putL C [.int (-1), .int (-1), .int (-1), .int stk, .ref ka, .ref ua, .int 0] pB_34 (by decide) gh_us rfl (by simp) rfl rfl dB_leave_17 ?_
  refine gh_aload_n C dB_leave_20 rfl ?_
  refine gh_get C fB_21 gh_us rfl dB_leave_21 ?_
  refine gh_iconst C (-1) dB_leave_24 (by decide) ?_
  refine gh_callS C [.ref ka, .int (-1)] (c_fill l d _ (-1) ((gh_un (gh_kd (by decide))).trans ((gh_un (gh_kd (by decide))).trans ((gh_un (gh_kd (by decide))).trans ((gh_un (gh_kd (by decide))).trans hm.2.1)))) (by decide)) lB_28 wA_fill sA_fill rfl rfl (Nat.le_of_ble_eq_true rfl) ⟨Nat.le_of_ble_eq_true rfl, Nat.le_of_ble_eq_true rfl⟩ (Nat.le_of_ble_eq_true rfl) (Nat.le_of_ble_eq_true rfl) dB_leave_25 (fun v25 g25 h25 => ?_)
  obtain ⟨rfl, rfl⟩ := h25
  refine gh_vret C hQ rfl dB_leave_28 ?_
  refine ⟨rfl, ?_⟩
  funext q
  unfold mst gh_u
  by_cases h8 : q = (8, m) <;> by_cases h9 : q = (9, m) <;> simp_all
  all_goals rfl
set_option maxRecDepth 100000 in
set_option maxHeartbeats 4000000 in
theorem c_enter (l : Launch) (d : gh_D) (g : gh_H) {m a ka ua uc : Nat} {ep lf sec stk : Int32} {f u : Nat → Int32} (hm : pM g m a ka ua ep lf sec stk uc f u) {e D t xa xb xc : Nat} {K B U : Nat → Int32} (hp : pT g e D t xa xb xc K B U) {x : Nat} {num cl es cn rm up ad en : Int32} (he : pE g e x t num cl es cn rm up ad en) (p : Nat) (hpl : p < 2 ^ D) : gh_C l d mB_enter (rr 2 0 0) [.ref a, .ref x, .int (nI p)] g (fun v g1 => v = none ∧ g1 = mst g m a ka ua num (nI p) es stk 0 (upd (fl 5 (-1) f) 0 (K (2 * p)))) := by
  have hD := hp.2.2.2.2
  have h31 := tW_le hD
  have hv := leaf_w D hD p hpl
  refine gh_of [some (.ref a), some (.ref x), some (.int (nI p))] (by decide) rfl (Nat.le_of_ble_eq_true rfl) (by simp [Value.category]) (fun z C hQ => ?_)
  show gh_W l d z 0 [some (.ref a), some (.ref x), some (.int (nI p))] [] g 0 0
  refine gh_aload_n C dB_enter_0 rfl ?_
  refine gh_callV C [] (c_leave l d _ hm) lB_37 wB_leave vB_leave hm.1 rfl rfl rfl (Nat.le_of_ble_eq_true rfl) ⟨Nat.le_of_ble_eq_true rfl, Nat.le_of_ble_eq_true rfl⟩ (Nat.le_of_ble_eq_true rfl) (Nat.le_of_ble_eq_true rfl) dB_enter_1 (fun v1 g1 h1 => ?_)
  obtain ⟨rfl, rfl⟩ := h1
  have hm1 := mst_pM (ep1 := -1) (lf1 := -1) (sec1 := -1) (stk1 := stk) (uc1 := 0) (f1 := fl 5 (-1) f) hm
  have hp1 := mst_pT (m := m) (a := a) (ka := ka) (ua := ua) (uc := 0) (ep := -1) (lf := -1) (sec := -1) (stk := stk) (f := fl 5 (-1) f) hp
  have he1 := mst_pE (m := m) (a := a) (ka := ka) (ua := ua) (uc := 0) (ep := -1) (lf := -1) (sec := -1) (stk := stk) (f := fl 5 (-1) f) he
  refine gh_aload_n C dB_enter_4 rfl ?_
  refine gh_aload_n C dB_enter_5 rfl ?_
  refine gh_get C fB_40 he1 rfl dB_enter_6 ?_
  refine gh_putL C [.int num, .int (-1), .int (-1), .int stk, .ref ka, .ref ua, .int (nI 0)] pB_9 (by decide) hm1.1 rfl (by simp) rfl rfl dB_enter_9 ?_
  refine gh_aload_n C dB_enter_12 rfl ?_
  refine gh_iload_n C dB_enter_13 rfl ?_
  refine gh_putL C [.int num, .int (nI p), .int (-1), .int stk, .ref ka, .ref ua, .int (nI 0)] pB_15 (by decide) gh_us rfl (by simp) rfl rfl dB_enter_14 ?_
  refine gh_aload_n C dB_enter_17 rfl ?_
  refine gh_aload_n C dB_enter_18 rfl ?_
  refine gh_get C fB_45 ((gh_un (gh_kd (by decide))).trans ((gh_un (gh_kd (by decide))).trans he1)) rfl dB_enter_19 ?_
  refine gh_putL C [.int num, .int (nI p), .int es, .int stk, .ref ka, .ref ua, .int (nI 0)] pB_18 (by decide) gh_us rfl (by simp) rfl rfl dB_enter_22 ?_
  rw [mst_8, mst_8, mst_8]
  have hm2 := mst_pM (ep1 := num) (lf1 := nI p) (sec1 := es) (stk1 := stk) (uc1 := 0) (f1 := fl 5 (-1) f) hm
  have hp2 := mst_pT (m := m) (a := a) (ka := ka) (ua := ua) (uc := 0) (ep := num) (lf := nI p) (sec := es) (stk := stk) (f := fl 5 (-1) f) hp
  have he2 := mst_pE (m := m) (a := a) (ka := ka) (ua := ua) (uc := 0) (ep := num) (lf := nI p) (sec := es) (stk := stk) (f := fl 5 (-1) f) he
  refine gh_aload_n C dB_enter_25 rfl ?_
  refine gh_get C fB_21 hm2.1 rfl dB_enter_26 ?_
  refine gh_iconst C 0 dB_enter_29 (by decide) ?_
  refine gh_aload_n C dB_enter_30 rfl ?_
  refine gh_get C fB_46 he2 rfl dB_enter_31 ?_
  refine gh_iload_n C dB_enter_34 rfl ?_
  refine gh_callS C [.int (nI p)] (c_leafNode l d _ (nI p)) lB_50 wG_leafNode sG_leafNode rfl rfl (Nat.le_of_ble_eq_true rfl) ⟨Nat.le_of_ble_eq_true rfl, Nat.le_of_ble_eq_true rfl⟩ (Nat.le_of_ble_eq_true rfl) (Nat.le_of_ble_eq_true rfl) dB_enter_35 (fun v35 g35 h35 => ?_)
  obtain ⟨rfl, rfl⟩ := h35
  rw [two_n p]
  refine gh_callV C [.int (nI (2 * p))] (c_keyOf l d _ hp2 (nI (2 * p))) lB_54 wT_keyOf vT_keyOf hp2.1 rfl rfl rfl (Nat.le_of_ble_eq_true rfl) ⟨Nat.le_of_ble_eq_true rfl, Nat.le_of_ble_eq_true rfl⟩ (Nat.le_of_ble_eq_true rfl) (Nat.le_of_ble_eq_true rfl) dB_enter_38 (fun v38 g38 h38 => ?_)
  obtain ⟨rfl, rfl⟩ := h38
  rw [tkey_n hD hv]
  refine gh_iastN C (0) hm2.2.1 rfl rfl ⟨by decide, by decide⟩ dB_enter_41 ?_
  refine gh_vret C hQ rfl dB_enter_42 ?_
  exact ⟨rfl, by rw [mst_9]⟩
def drp (D : Nat) (K : Nat → Int32) (p : Nat) (f : Nat → Int32) (n : Nat) : Nat → Int32 := fun i => if i < n ∧ f i ≠ tk D K (pn p i) then -1 else f i
theorem drp_0 (D : Nat) (K : Nat → Int32) (p : Nat) (f : Nat → Int32) : drp D K p f 0 = f := by funext i; simp [drp]
theorem drp_i (D : Nat) (K : Nat → Int32) (p : Nat) (f : Nat → Int32) (i : Nat) : drp D K p f i i = f i := by simp [drp]
theorem drp_s1 {D : Nat} {K : Nat → Int32} {p : Nat} {f : Nat → Int32} {i : Nat} (h : ¬ f i = tk D K (pn p i)) : upd (drp D K p f i) i (-1) = drp D K p f (i + 1) := by
  funext j
  simp only [upd, drp]
  by_cases hj : j = i
  · subst hj; simp [h]
  · rw [if_neg hj]
    by_cases h2 : j < i
    · simp [h2, show j < i + 1 by omega]
    · simp [h2, show ¬ j < i + 1 by omega]
theorem drp_s0 {D : Nat} {K : Nat → Int32} {p : Nat} {f : Nat → Int32} {i : Nat} (h : f i = tk D K (pn p i)) : drp D K p f i = drp D K p f (i + 1) := by
  funext j
  simp only [drp]
  by_cases hj : j = i
  · subst hj; simp [h]
  · by_cases h2 : j < i
    · simp [h2, show j < i + 1 by omega]
    · simp [h2, show ¬ j < i + 1 by omega]
set_option maxRecDepth 100000 in
set_option maxHeartbeats 4000000 in
theorem c_drop (l : Launch) (d : gh_D) (g : gh_H) {m a ka ua uc : Nat} {ep lf sec stk : Int32} {f u : Nat → Int32} (hm : pM g m a ka ua ep lf sec stk uc f u) {e D t xa xb xc : Nat} {K B U : Nat → Int32} (hp : pT g e D t xa xb xc K B U) (p : Nat) (hlf : lf = nI p) (hpl : p < 16) : gh_C l d mB_dropOldKeys (rr 2 0 0) [.ref a, .ref t] g (fun v g1 => v = none ∧ g1 = mst g m a ka ua ep lf sec stk uc (drp D K p f 5)) := by
  refine gh_of [some (.ref a), some (.ref t), none] (by decide) rfl (Nat.le_of_ble_eq_true rfl) (by simp [Value.category]) (fun z C hQ => ?_)
  show gh_W l d z 0 [some (.ref a), some (.ref t), none] [] g 0 0
  have hD := hp.2.2.2.2
  subst hlf
  have loop : ∀ (c i : Nat), i + c = 5 → gh_W l d z 2 [some (.ref a), some (.ref t), some (.int (nI i))] [] (mst g m a ka ua ep (nI p) sec stk uc (drp D K p f i)) 0 0 := by
    intro c
    induction c with
    | zero =>
      intro i hi
      have hi : i = 5 := by omega
      subst hi
      refine gh_iload_n C dB_dropOldKeys_2 rfl ?_
      refine gh_iconst C 4 dB_dropOldKeys_3 (by decide) ?_
      refine gh_icmp_gt C 41 dB_dropOldKeys_4 (by decide) (fun c4 => ?_) (fun c4 => ?_)
      ·
        refine gh_vret C hQ rfl dB_dropOldKeys_41 ?_
        exact ⟨rfl, rfl⟩
      · exact absurd (show (4 : Int32) < nI 5 from nI_lt (a := 4) (by decide) (by decide)) c4
    | succ c ih =>
      intro i hi
      have hm1 := mst_pM (ep1 := ep) (lf1 := nI p) (sec1 := sec) (stk1 := stk) (uc1 := uc) (f1 := drp D K p f i) hm
      have hp1 := mst_pT (m := m) (a := a) (ka := ka) (ua := ua) (uc := uc) (ep := ep) (lf := nI p) (sec := sec) (stk := stk) (f := drp D K p f i) hp
      have hv := pn_lt i (by omega) p hpl
      refine gh_iload_n C dB_dropOldKeys_2 rfl ?_
      refine gh_iconst C 4 dB_dropOldKeys_3 (by decide) ?_
      refine gh_icmp_gt C 41 dB_dropOldKeys_4 (by decide) (fun c4 => ?_) (fun c4 => ?_)
      · exact absurd c4 (show ¬ nI 4 < nI i from nI_nlt (by omega) (by decide))
      ·
        refine gh_aload_n C dB_dropOldKeys_7 rfl ?_
        refine gh_get C fB_21 hm1.1 rfl dB_dropOldKeys_8 ?_
        refine gh_iload_n C dB_dropOldKeys_11 rfl ?_
        refine gh_ialdN C (i) hm1.2.1 rfl rfl ⟨by omega, by decide⟩ dB_dropOldKeys_12 ?_
        refine gh_ti (f i) (drp_i D K p f i) ?_
        refine gh_aload_n C dB_dropOldKeys_13 rfl ?_
        refine gh_aload_n C dB_dropOldKeys_14 rfl ?_
        refine gh_get C fB_15 hm1.1 rfl dB_dropOldKeys_15 ?_
        refine gh_iload_n C dB_dropOldKeys_18 rfl ?_
        refine gh_callS C [.int (nI p), .int (nI i)] (c_pathNode l d _ p i hpl (by omega)) lB_86 wG_pathNode sG_pathNode rfl rfl (Nat.le_of_ble_eq_true rfl) ⟨Nat.le_of_ble_eq_true rfl, Nat.le_of_ble_eq_true rfl⟩ (Nat.le_of_ble_eq_true rfl) (Nat.le_of_ble_eq_true rfl) dB_dropOldKeys_19 (fun v19 g19 h19 => ?_)
        obtain ⟨rfl, rfl⟩ := h19
        refine gh_callV C [.int (nI (pn p i))] (c_keyOf l d _ hp1 (nI (pn p i))) lB_54 wT_keyOf vT_keyOf hp1.1 rfl rfl rfl (Nat.le_of_ble_eq_true rfl) ⟨Nat.le_of_ble_eq_true rfl, Nat.le_of_ble_eq_true rfl⟩ (Nat.le_of_ble_eq_true rfl) (Nat.le_of_ble_eq_true rfl) dB_dropOldKeys_22 (fun v22 g22 h22 => ?_)
        obtain ⟨rfl, rfl⟩ := h22
        rw [tk_n hD hv]
        refine gh_icmp_eq C 35 dB_dropOldKeys_25 (by decide) (fun c25 => ?_) (fun c25 => ?_)
        · refine gh_iinc C (nI (i + 1)) [some (.ref a), some (.ref t), some (.int (nI (i + 1)))] dB_dropOldKeys_35 rfl (gh_inc i) rfl ?_
          refine gh_goto C 2 dB_dropOldKeys_38 (by decide) ?_
          rw [drp_s0 c25]
          exact ih (i + 1) (by omega)
        ·
          refine gh_aload_n C dB_dropOldKeys_28 rfl ?_
          refine gh_get C fB_21 hm1.1 rfl dB_dropOldKeys_29 ?_
          refine gh_iload_n C dB_dropOldKeys_32 rfl ?_
          refine gh_iconst C (-1) dB_dropOldKeys_33 (by decide) ?_
          refine gh_iastN C (i) hm1.2.1 rfl rfl ⟨by omega, by decide⟩ dB_dropOldKeys_34 ?_
          refine gh_iinc C (nI (i + 1)) [some (.ref a), some (.ref t), some (.int (nI (i + 1)))] dB_dropOldKeys_35 rfl (gh_inc i) rfl ?_
          refine gh_goto C 2 dB_dropOldKeys_38 (by decide) ?_
          rw [mst_9, drp_s1 c25]
          exact ih (i + 1) (by omega)
  refine gh_iconst C 0 dB_dropOldKeys_0 (by decide) ?_
  refine gh_istore_n C [some (.ref a), some (.ref t), some (.int 0)] dB_dropOldKeys_1 rfl (Nat.le_of_ble_eq_true rfl) ?_
  have h := loop 5 0 (by omega)
  rw [drp_0, mst_self hm] at h
  exact h
def lrp (D : Nat) (K : Nat → Int32) (cn : Int32) (p h0 : Nat) (f : Nat → Int32) (n : Nat) : Nat → Int32 := fun i => if h0 ≤ i ∧ i < n ∧ cn &&& bitN (pn p i) ≠ 0 then tk D K (pn p i) else f i
theorem lrp_0 (D : Nat) (K : Nat → Int32) (cn : Int32) (p h0 : Nat) (f : Nat → Int32) : lrp D K cn p h0 f h0 = f := by
  funext i
  simp only [lrp]
  rw [if_neg (fun h => by omega)]
theorem lrp_s1 {D : Nat} {K : Nat → Int32} {cn : Int32} {p h0 : Nat} {f : Nat → Int32} {i : Nat} (h0i : h0 ≤ i) (h : ¬ cn &&& bitN (pn p i) = 0) : upd (lrp D K cn p h0 f i) i (tk D K (pn p i)) = lrp D K cn p h0 f (i + 1) := by
  funext j
  simp only [upd, lrp]
  by_cases hj : j = i
  · subst hj; simp [h, h0i]
  · rw [if_neg hj]
    by_cases h2 : j < i
    · simp [h2, show j < i + 1 by omega]
    · simp [h2, show ¬ j < i + 1 by omega]
theorem lrp_s0 {D : Nat} {K : Nat → Int32} {cn : Int32} {p h0 : Nat} {f : Nat → Int32} {i : Nat} (h : cn &&& bitN (pn p i) = 0) : lrp D K cn p h0 f i = lrp D K cn p h0 f (i + 1) := by
  funext j
  simp only [lrp]
  by_cases hj : j = i
  · subst hj; simp [h]
  · by_cases h2 : j < i
    · simp [h2, show j < i + 1 by omega]
    · simp [h2, show ¬ j < i + 1 by omega]
/-- learnPath with what lowestCounting told -/
def lrq (D : Nat) (K : Nat → Int32) (cn : Int32) (p : Nat) (w : Option Nat) (f : Nat → Int32) : Nat → Int32 := match w with
  | some h => lrp D K cn p (h + 1) f 5
  | none => f
def owI (w : Option Nat) : Int32 := match w with
  | some h => nI (h + 1)
  | none => -1
set_option maxRecDepth 100000 in
set_option maxHeartbeats 4000000 in
theorem c_learnPath (l : Launch) (d : gh_D) (g : gh_H) {m a ka ua uc : Nat} {ep lf sec stk : Int32} {f u : Nat → Int32} (hm : pM g m a ka ua ep lf sec stk uc f u) {e D t xa xb xc : Nat} {K B U : Nat → Int32} (hp : pT g e D t xa xb xc K B U) {x : Nat} {num cl es cn rm up ad en : Int32} (he : pE g e x t num cl es cn rm up ad en) (p : Nat) (hlf : lf = nI p) (hpl : p < 16) (w : Option Nat) (hw : ∀ h, w = some h → h < 4) : gh_C l d mB_learnPath (rr 2 0 0) [.ref a, .ref x, .int (owI w)] g (fun v g1 => v = none ∧ g1 = mst g m a ka ua ep lf sec stk uc (lrq D K cn p w f)) := by
  refine gh_of [some (.ref a), some (.ref x), some (.int (owI w)), none, none] (by decide) rfl (Nat.le_of_ble_eq_true rfl) (by simp [Value.category]) (fun z C hQ => ?_)
  show gh_W l d z 0 [some (.ref a), some (.ref x), some (.int (owI w)), none, none] [] g 0 0
  have hD := hp.2.2.2.2
  subst hlf
  cases w with
  | none =>
    show gh_W l d z 0 [some (.ref a), some (.ref x), some (.int (-1)), none, none] [] g 0 0
    refine gh_iload_n C dB_learnPath_0 rfl ?_
    refine gh_iconst C (-1) dB_learnPath_1 (by decide) ?_
    refine gh_icmp_ne C 6 dB_learnPath_2 (by decide) (fun c2 => ?_) (fun c2 => ?_)
    · exact absurd rfl c2
    ·
      refine gh_vret C hQ rfl dB_learnPath_5 ?_
      exact ⟨rfl, (mst_self hm).symm⟩
  | some h0 =>
    have hh4 := hw h0 rfl
    show gh_W l d z 0 [some (.ref a), some (.ref x), some (.int (nI (h0 + 1))), none, none] [] g 0 0
    have loop : ∀ (c i : Nat) (y : Option Value), i + c = 5 → h0 + 1 ≤ i → gh_W l d z 12 [some (.ref a), some (.ref x), some (.int (nI (h0 + 1))), some (.int (nI i)), y] [] (mst g m a ka ua ep (nI p) sec stk uc (lrp D K cn p (h0 + 1) f i)) 0 0 := by
      intro c
      induction c with
      | zero =>
        intro i y hi h0i
        have hi : i = 5 := by omega
        subst hi
        refine gh_iload_n C dB_learnPath_12 rfl ?_
        refine gh_iconst C 4 dB_learnPath_13 (by decide) ?_
        refine gh_icmp_gt C 61 dB_learnPath_14 (by decide) (fun c14 => ?_) (fun c14 => ?_)
        ·
          refine gh_vret C hQ rfl dB_learnPath_61 ?_
          exact ⟨rfl, rfl⟩
        · exact absurd (show (4 : Int32) < nI 5 from nI_lt (a := 4) (by decide) (by decide)) c14
      | succ c ih =>
        intro i y hi h0i
        have hm1 := mst_pM (ep1 := ep) (lf1 := nI p) (sec1 := sec) (stk1 := stk) (uc1 := uc) (f1 := lrp D K cn p (h0 + 1) f i) hm
        have hp1 := mst_pT (m := m) (a := a) (ka := ka) (ua := ua) (uc := uc) (ep := ep) (lf := nI p) (sec := sec) (stk := stk) (f := lrp D K cn p (h0 + 1) f i) hp
        have he1 := mst_pE (m := m) (a := a) (ka := ka) (ua := ua) (uc := uc) (ep := ep) (lf := nI p) (sec := sec) (stk := stk) (f := lrp D K cn p (h0 + 1) f i) he
        have hv := pn_lt i (by omega) p hpl
        refine gh_iload_n C dB_learnPath_12 rfl ?_
        refine gh_iconst C 4 dB_learnPath_13 (by decide) ?_
        refine gh_icmp_gt C 61 dB_learnPath_14 (by decide) (fun c14 => ?_) (fun c14 => ?_)
        · exact absurd c14 (show ¬ nI 4 < nI i from nI_nlt (by omega) (by decide))
        ·
          refine gh_aload_n C dB_learnPath_17 rfl ?_
          refine gh_get C fB_15 hm1.1 rfl dB_learnPath_18 ?_
          refine gh_iload_n C dB_learnPath_21 rfl ?_
          refine gh_callS C [.int (nI p), .int (nI i)] (c_pathNode l d _ p i hpl (by omega)) lB_86 wG_pathNode sG_pathNode rfl rfl (Nat.le_of_ble_eq_true rfl) ⟨Nat.le_of_ble_eq_true rfl, Nat.le_of_ble_eq_true rfl⟩ (Nat.le_of_ble_eq_true rfl) (Nat.le_of_ble_eq_true rfl) dB_learnPath_22 (fun v22 g22 h22 => ?_)
          obtain ⟨rfl, rfl⟩ := h22
          refine gh_istore C [some (.ref a), some (.ref x), some (.int (nI (h0 + 1))), some (.int (nI i)), some (.int (nI (pn p i)))] dB_learnPath_25 rfl (Nat.le_of_ble_eq_true rfl) ?_
          refine gh_aload_n C dB_learnPath_27 rfl ?_
          refine gh_get C fB_104 he1 rfl dB_learnPath_28 ?_
          refine gh_iload C dB_learnPath_31 rfl ?_
          refine gh_callS C [.int (nI (pn p i))] (c_bit l d _ (nI (pn p i))) lB_73 wG_bit sG_bit rfl rfl (Nat.le_of_ble_eq_true rfl) ⟨Nat.le_of_ble_eq_true rfl, Nat.le_of_ble_eq_true rfl⟩ (Nat.le_of_ble_eq_true rfl) (Nat.le_of_ble_eq_true rfl) dB_learnPath_33 (fun v33 g33 h33 => ?_)
          obtain ⟨rfl, rfl⟩ := h33
          refine gh_iand C dB_learnPath_36 ?_
          refine gh_if_eq C 55 dB_learnPath_37 (by decide) (fun c37 => ?_) (fun c37 => ?_)
          · refine gh_iinc C (nI (i + 1)) [some (.ref a), some (.ref x), some (.int (nI (h0 + 1))), some (.int (nI (i + 1))), some (.int (nI (pn p i)))] dB_learnPath_55 rfl (gh_inc i) rfl ?_
            refine gh_goto C 12 dB_learnPath_58 (by decide) ?_
            rw [lrp_s0 c37]
            exact ih (i + 1) _ (by omega) (by omega)
          ·
            refine gh_aload_n C dB_learnPath_40 rfl ?_
            refine gh_get C fB_21 hm1.1 rfl dB_learnPath_41 ?_
            refine gh_iload_n C dB_learnPath_44 rfl ?_
            refine gh_aload_n C dB_learnPath_45 rfl ?_
            refine gh_get C fB_46 he1 rfl dB_learnPath_46 ?_
            refine gh_iload C dB_learnPath_49 rfl ?_
            refine gh_callV C [.int (nI (pn p i))] (c_keyOf l d _ hp1 (nI (pn p i))) lB_54 wT_keyOf vT_keyOf hp1.1 rfl rfl rfl (Nat.le_of_ble_eq_true rfl) ⟨Nat.le_of_ble_eq_true rfl, Nat.le_of_ble_eq_true rfl⟩ (Nat.le_of_ble_eq_true rfl) (Nat.le_of_ble_eq_true rfl) dB_learnPath_51 (fun v51 g51 h51 => ?_)
            obtain ⟨rfl, rfl⟩ := h51
            rw [tk_n hD hv]
            refine gh_iastN C (i) hm1.2.1 rfl rfl ⟨by omega, by decide⟩ dB_learnPath_54 ?_
            refine gh_iinc C (nI (i + 1)) [some (.ref a), some (.ref x), some (.int (nI (h0 + 1))), some (.int (nI (i + 1))), some (.int (nI (pn p i)))] dB_learnPath_55 rfl (gh_inc i) rfl ?_
            refine gh_goto C 12 dB_learnPath_58 (by decide) ?_
            rw [mst_9, lrp_s1 h0i c37]
            exact ih (i + 1) _ (by omega) (by omega)
    refine gh_iload_n C dB_learnPath_0 rfl ?_
    refine gh_iconst C (-1) dB_learnPath_1 (by decide) ?_
    refine gh_icmp_ne C 6 dB_learnPath_2 (by decide) (fun c2 => ?_) (fun c2 => ?_)
    ·
      refine gh_iload_n C dB_learnPath_6 rfl ?_
      refine gh_iconst C 1 dB_learnPath_7 (by decide) ?_
      refine gh_max C (h0 + 1) 1 (by omega) (by omega) xB_max ⟨Nat.le_of_ble_eq_true rfl, Nat.le_of_ble_eq_true rfl⟩ (Nat.le_of_ble_eq_true rfl) dB_learnPath_8 ?_
      refine gh_istore_n C [some (.ref a), some (.ref x), some (.int (nI (h0 + 1))), some (.int (nI (h0 + 1))), none] dB_learnPath_11 rfl (Nat.le_of_ble_eq_true rfl) ?_
      have h := loop (4 - h0) (h0 + 1) none (by omega) (Nat.le_refl _)
      rw [lrp_0, mst_self hm] at h
      exact h
    · exact absurd c2 (fun h => absurd (by rw [h]; decide) (nI_pos (n := h0 + 1) (by omega)))
