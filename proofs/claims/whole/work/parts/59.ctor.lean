/-! the constructors -/
theorem nw_4 : Cond.arrayOver (.object "RatchetGroup$Member") ∈ gh_nw := by simp [gh_nw]
theorem nw_5 : Cond.arrayOver (.object "RatchetGroup$Epoch") ∈ gh_nw := by simp [gh_nw]
theorem nw_6 : Cond.arrayOver (.object "RatchetGroup$KeyPackage") ∈ gh_nw := by simp [gh_nw]
theorem nw_7 : Cond.arrayOver (.object "RatchetGroup$Proposal") ∈ gh_nw := by simp [gh_nw]
set_option maxRecDepth 100000 in
set_option maxHeartbeats 4000000 in
theorem c_Secrets (l : Launch) (d : gh_D) (g : gh_H) {a : Nat} (hg : g (2, 0) = some (a, .inr (1, [.null, .int 0, .null, .null, .null, .int 0]))) : gh_C l d mS_init (rr 1 4 256) [.ref a] g (fun v g1 => v = none ∧ pS g1 a 1 0 (upd (fun _ => 0) 0 1) (fun _ => 0) (fun _ => 0) (fun _ => 0) ∧ fr kS g g1) := by
  refine gh_of [some (.ref a)] (by decide) rfl (Nat.le_of_ble_eq_true rfl) (by simp [Value.category]) (fun z C hQ => ?_)
  show gh_W l d z 0 [some (.ref a)] [] g 4 256
  refine gh_aload_n C dS_init_0 rfl ?_
  refine gh_obj C oS_3 oo_i oo_c (Nat.le_of_ble_eq_true rfl) ⟨Nat.le_of_ble_eq_true rfl, Nat.le_of_ble_eq_true rfl⟩ dS_init_1 ?_
  refine gh_aload_n C dS_init_4 rfl ?_
  refine gh_bipush C 64 dS_init_5 (by decide) ?_
  refine gh_newaB C (3, 0) (64) ⟨rfl, by decide⟩ 3 192 (by (try dsimp only [rr]); omega) (by (try dsimp only [rr]); omega) dS_init_7 (fun ao nao => ?_)
  refine gh_putL C [.ref ao, .int 0, .null, .null, .null, .int 0] pS_11 (by decide) ((gh_un (gh_kd (by decide))).trans hg) rfl (by simp) rfl rfl dS_init_9 ?_
  refine gh_aload_n C dS_init_12 rfl ?_
  refine gh_bipush C 64 dS_init_13 (by decide) ?_
  refine gh_newaI C (4, 0) (64) ⟨rfl, by decide⟩ 2 128 (by (try dsimp only [rr]); omega) (by (try dsimp only [rr]); omega) dS_init_15 (fun a1 na1 => ?_)
  refine gh_putL C [.ref ao, .int 0, .ref a1, .null, .null, .int 0] pS_15 (by decide) ((gh_un (gh_kd (by decide))).trans gh_us) rfl (by simp) rfl rfl dS_init_17 ?_
  refine gh_aload_n C dS_init_20 rfl ?_
  refine gh_bipush C 64 dS_init_21 (by decide) ?_
  refine gh_newaI C (5, 0) (64) ⟨rfl, by decide⟩ 1 64 (by (try dsimp only [rr]); omega) (by (try dsimp only [rr]); omega) dS_init_23 (fun a2 na2 => ?_)
  refine gh_putL C [.ref ao, .int 0, .ref a1, .ref a2, .null, .int 0] pS_19 (by decide) ((gh_un (gh_kd (by decide))).trans gh_us) rfl (by simp) rfl rfl dS_init_25 ?_
  refine gh_aload_n C dS_init_28 rfl ?_
  refine gh_bipush C 64 dS_init_29 (by decide) ?_
  refine gh_newaI C (6, 0) (64) ⟨rfl, by decide⟩ 0 0 (by (try dsimp only [rr]); omega) (by (try dsimp only [rr]); omega) dS_init_31 (fun a3 na3 => ?_)
  refine gh_putL C [.ref ao, .int 0, .ref a1, .ref a2, .ref a3, .int 0] pS_22 (by decide) ((gh_un (gh_kd (by decide))).trans gh_us) rfl (by simp) rfl rfl dS_init_33 ?_
  refine gh_aload_n C dS_init_36 rfl ?_
  refine gh_get C fS_11 gh_us rfl dS_init_37 ?_
  refine gh_iconst C 0 dS_init_40 (by decide) ?_
  refine gh_iconst C 1 dS_init_41 (by decide) ?_
  refine gh_bastN C (0) ((gh_un (gh_kd (by decide))).trans ((gh_un (gh_kd (by decide))).trans ((gh_un (gh_kd (by decide))).trans ((gh_un (gh_kd (by decide))).trans ((gh_un (gh_kd (by decide))).trans ((gh_un (gh_kd (by decide))).trans ((gh_un (gh_kd (by decide))).trans gh_us))))))) rfl rfl ⟨by decide, by decide⟩ dS_init_42 ?_
  refine gh_aload_n C dS_init_43 rfl ?_
  refine gh_iconst C 1 dS_init_44 (by decide) ?_
  refine gh_putL C [.ref ao, .int 1, .ref a1, .ref a2, .ref a3, .int 0] pS_25 (by decide) ((gh_un (gh_kd (by decide))).trans gh_us) rfl (by simp) rfl rfl dS_init_45 ?_
  refine gh_vret C hQ rfl dS_init_48 ?_
  exact ⟨rfl, ⟨ao, a1, a2, a3, gh_us, ((gh_un (gh_kd (by decide))).trans gh_us), ((gh_un (gh_kd (by decide))).trans ((gh_un (gh_kd (by decide))).trans ((gh_un (gh_kd (by decide))).trans ((gh_un (gh_kd (by decide))).trans ((gh_un (gh_kd (by decide))).trans ((gh_un (gh_kd (by decide))).trans ((gh_un (gh_kd (by decide))).trans gh_us))))))), ((gh_un (gh_kd (by decide))).trans ((gh_un (gh_kd (by decide))).trans ((gh_un (gh_kd (by decide))).trans ((gh_un (gh_kd (by decide))).trans ((gh_un (gh_kd (by decide))).trans gh_us))))), ((gh_un (gh_kd (by decide))).trans ((gh_un (gh_kd (by decide))).trans ((gh_un (gh_kd (by decide))).trans gh_us)))⟩, ((((((((((fr.rf.u rfl).u rfl).u rfl).u rfl).u rfl).u rfl).u rfl).u rfl).u rfl).u rfl)⟩
def s00 : SC := (fun a b => if a = 0 then (if b = 0 then 1 else if b = 3 then 3 else 0) else 0,
  fun c i => if c ≤ 2 then -1 else if c = 4 then -1 else if c = 5 then nI 2 else if c = 20 then upd (fl 16 (-1) (fun _ => 0)) 0 0 i else if c = 21 then upd (fun _ => 0) 0 1 i else 0,
  fun c _ => if c = 0 then fl 5 (-1) (fun _ => 0) else if c = 2 then upd (fl 31 (-1) (fun _ => 0)) 0 (nI 1) else if c = 3 then upd (fl 31 (-1) (fun _ => 0)) 0 0 else if c = 4 then upd (fun _ => 0) 0 0 else fun _ => 0)
def s0 : SC := mbS s00 0 (nI 0) (nI 0) (nI 2) 0 0 (upd (fl 5 (-1) (fl 5 (-1) (fun _ => 0))) 0 (nI 1))
def k0 (k : Nat) : Bool := k == 7 || k == 8 || k == 9 || k == 10
set_option maxRecDepth 100000 in
set_option maxHeartbeats 4000000 in
theorem c_Group (l : Launch) (d : gh_D) (g : gh_H) {a : Nat} (hg : g (1, 0) = some (a, .inr (0, [.null, .null, .null, .int 0, .null, .int 0, .null, .int 0, .null, .null]))) : gh_C l d mG_init (rr 4 70 2000) [.ref a] g (fun v g1 => v = none ∧ ∃ Z : ZC, Z 1 0 = a ∧ cA g1 Z s0 1 ∧ fr kA g g1) := by
  refine gh_of [some (.ref a), none] (by decide) rfl (Nat.le_of_ble_eq_true rfl) (by simp [Value.category]) (fun z C hQ => ?_)
  show gh_W l d z 0 [some (.ref a), none] [] g 70 2000
  have tail : ∀ (b2 b7 b11 b17 b19 b21 b22 : Nat) (g1 : gh_H) (y1 : Option Value) (q7 : Nat → Option Nat) (za zk zu : Nat → Nat), g1 (1, 0) = some (a, .inr (0, [.ref b2, .ref b7, .ref b11, .int 0, .ref b17, .int 0, .ref b19, .int 0, .ref b21, .ref b22])) → pS g1 b2 1 0 (upd (fun _ => 0) 0 1) (fun _ => 0) (fun _ => 0) (fun _ => 0) → g1 (7, 0) = some (b7, .inl (4, 16, .inr (.inr (.inr (.inr q7))))) → (∀ m, m < 16 → q7 m = some (za m)) → (∀ m, m < 16 → pM g1 m (za m) (zk m) (zu m) (-1) (-1) (-1) 0 0 (fl 5 (-1) (fun _ => 0)) (fun _ => 0)) → g1 (11, 0) = some (b11, .inl (5, 60, .inr (.inr (.inr (.inr (fun _ => none)))))) → g1 (17, 0) = some (b17, .inl (6, 60, .inr (.inr (.inr (.inr (fun _ => none)))))) → g1 (19, 0) = some (b19, .inl (7, 20, .inr (.inr (.inr (.inr (fun _ => none)))))) → g1 (21, 0) = some (b21, .inl (0, 16, .inl (fun _ => 0))) → g1 (22, 0) = some (b22, .inl (0, 146, .inl (fun _ => 0))) → fr kA g g1 → gh_W l d z 95 [some (.ref a), y1] [] g1 10 500 := by
    intro b2 b7 b11 b17 b19 b21 b22 g1 y1 q7 za zk zu h1 hS h7 h7q hM h11 h17 h19 h21 h22 hf1
    have ok1 : okS 1 0 (upd (fun _ => 0) 0 1) (fun _ => 0) (fun _ => 0) (fun _ => 0) := ⟨by decide, by decide, fun j => by
      by_cases h : j = 0
      · right; simp [upd, h]
      · left; simp [upd, h], fun j hj => by simp [upd, show j ≠ 0 by omega], fun _ _ => ⟨rfl, rfl, rfl⟩⟩
    have ok2 := ok1.fresh (by decide)
    have ok3 := ok2.fresh (by decide)
    refine gh_aload_n C dG_init_95 rfl ?_
    refine gh_get C fG_40 h1 rfl dG_init_96 ?_
    refine gh_iconst C (-1) dG_init_99 (by decide) ?_
    refine gh_callS C [.ref b21, .int (-1)] (c_fill l d _ (-1) h21 (by decide)) lG_48 wA_fill sA_fill rfl rfl (Nat.le_of_ble_eq_true rfl) ⟨Nat.le_of_ble_eq_true rfl, Nat.le_of_ble_eq_true rfl⟩ (Nat.le_of_ble_eq_true rfl) (Nat.le_of_ble_eq_true rfl) dG_init_100 (fun v100 g100 h100 => ?_)
    obtain ⟨rfl, rfl⟩ := h100
    obtain ⟨g2, eg2⟩ : ∃ g2, g2 = gh_u g1 (21, 0) (b21, .inl (0, 16, .inl (fl 16 (-1) (fun _ => 0)))) := ⟨_, rfl⟩
    rw [← eg2]
    have hf2 : fr (fun k => k == 21) g1 g2 := by rw [eg2]; exact fr.rf.u rfl
    have h21b : g2 (21, 0) = some (b21, .inl (0, 16, .inl (fl 16 (-1) (fun _ => 0)))) := by rw [eg2]; exact gh_us
    refine gh_new C (12, 0) zG_22 9 480 (by (try dsimp only [rr]); omega) (by (try dsimp only [rr]); omega) dG_init_103 (fun w nw => ?_)
    refine gh_dup C dG_init_106 rfl ?_
    refine gh_iconst C 0 dG_init_107 (by decide) ?_
    refine gh_new C (13, 0) zG_54 8 470 (by (try dsimp only [rr]); omega) (by (try dsimp only [rr]); omega) dG_init_108 (fun t nt => ?_)
    refine gh_dup C dG_init_111 rfl ?_
    refine gh_callI C [] (c_Tree0 l d _ (e := 0) gh_us) lG_56 wT_init0 iT_init0 rfl rfl rfl rfl (Nat.le_of_ble_eq_true rfl) ⟨Nat.le_of_ble_eq_true rfl, Nat.le_of_ble_eq_true rfl⟩ (by (try dsimp only [rr]); omega) (by (try dsimp only [rr]); omega) dG_init_112 (fun v112 g112 h112 => ?_)
    obtain ⟨rfl, ⟨kb, bb, ub, hT4⟩, hf4⟩ := h112
    obtain ⟨g4, eg4⟩ : ∃ g4, g4 = g112 := ⟨_, rfl⟩
    rw [← eg4] at hT4 hf4 ⊢
    have hw4 := hf4.at (k := (12, 0)) rfl ((gh_un (gh_kd (by decide))).trans gh_us)
    refine gh_iconst C (-1) dG_init_115 (by decide) ?_
    refine gh_callI C [.int 0, .ref t, .int (-1)] (c_Epoch l d _ (e := 0) 0 (-1) hw4) lG_57 wE_init iE_init rfl rfl rfl rfl (Nat.le_of_ble_eq_true rfl) ⟨Nat.le_of_ble_eq_true rfl, Nat.le_of_ble_eq_true rfl⟩ (Nat.le_of_ble_eq_true rfl) (Nat.le_of_ble_eq_true rfl) dG_init_116 (fun v116 g116 h116 => ?_)
    obtain ⟨rfl, rfl⟩ := h116
    obtain ⟨g5, eg5⟩ : ∃ g5, g5 = (gh_u g4 (12, 0) (w, .inr (3, [.int 0, .ref t, .int (-1), .int (-1), .int 0, .int 0, .int 0, .int 0, .int 0]))) := ⟨_, rfl⟩
    rw [← eg5]
    have hf5 : fr (fun k => k == 12 || k == 13 || k == 14 || k == 15 || k == 16 || k == 21 || decide (60 ≤ k)) g1 g5 := by
      rw [eg5]
      exact ((((hf2.weak (fun k h => by simp at h ⊢; omega)).u rfl).u rfl).trans (hf4.weak (fun k h => by simp [kT] at h ⊢; omega))).u rfl
    have hE5 : pE g5 0 w t 0 (-1) (-1) 0 0 0 0 0 := by rw [eg5]; exact gh_us
    have hT5 : pT g5 0 0 t kb bb ub (fl 31 (-1) (fun _ => 0)) (fl 31 (-1) (fun _ => 0)) (fun _ => 0) := by rw [eg5]; exact pT_un hT4 (gh_kd (by decide)) (gh_kd (by decide)) (gh_kd (by decide)) (gh_kd (by decide))
    have hS5 := pS.fr hS hf5 (by decide)
    obtain ⟨ao5, x5, y5, w5, hs5, hs5b, hs5c, hs5d, hs5e⟩ := id hS5
    have h15 := hf5.at (k := (1, 0)) rfl h1
    have h21c : g5 (21, 0) = some (b21, .inl (0, 16, .inl (fl 16 (-1) (fun _ => 0)))) := by
      rw [eg5]
      exact (gh_un (gh_kd (by decide))).trans (hf4.at (k := (21, 0)) rfl ((gh_un (gh_kd (by decide))).trans ((gh_un (gh_kd (by decide))).trans h21b)))
    refine gh_astore_n C [some (.ref a), some (.ref w)] dG_init_119 rfl (Nat.le_of_ble_eq_true rfl) ?_
    refine gh_aload_n C dG_init_120 rfl ?_
    refine gh_get C fG_60 hE5 rfl dG_init_121 ?_
    refine gh_iconst C 0 dG_init_124 (by decide) ?_
    refine gh_aload_n C dG_init_125 rfl ?_
    refine gh_get C fG_12 h15 rfl dG_init_126 ?_
    refine gh_callV C [] (c_fresh l d _ hS5 ok1 (by decide)) lG_64 wS_fresh vS_fresh hs5 rfl rfl rfl (Nat.le_of_ble_eq_true rfl) ⟨Nat.le_of_ble_eq_true rfl, Nat.le_of_ble_eq_true rfl⟩ (by (try dsimp only [rr]); omega) (by show 2 * cap 2 - 2 * cap 1 ≤ _; rw [show 2 * cap 2 - 2 * cap 1 = 0 by decide]; exact Nat.zero_le _) dG_init_129 (fun v129 g129 h129 => ?_)
    obtain ⟨rfl, hS6, hf6⟩ := h129
    have h16 := hf6.at (k := (1, 0)) rfl h15
    have hT6 : pT g129 0 0 t kb bb ub (fl 31 (-1) (fun _ => 0)) (fl 31 (-1) (fun _ => 0)) (fun _ => 0) := ⟨hf6.at (k := (13, 0)) rfl hT5.1, hf6.at (k := (14, 0)) rfl hT5.2.1, hf6.at (k := (15, 0)) rfl hT5.2.2.1, hf6.at (k := (16, 0)) rfl hT5.2.2.2.1, by decide⟩
    have hE6 := hf6.at (k := (12, 0)) rfl hE5
    refine gh_iconst C 0 dG_init_132 (by decide) ?_
    refine gh_callV C [.int 0, .int (nI 1), .int 0] (c_give l d _ hT6 0 (nI 1) 0) lG_68 wT_give vT_give hT6.1 rfl rfl rfl (Nat.le_of_ble_eq_true rfl) ⟨Nat.le_of_ble_eq_true rfl, Nat.le_of_ble_eq_true rfl⟩ (Nat.le_of_ble_eq_true rfl) (Nat.le_of_ble_eq_true rfl) dG_init_133 (fun v133 g133 h133 => ?_)
    obtain ⟨rfl, rfl⟩ := h133
    rw [show (0 : Int32) = nI 0 from rfl, tput_n (D := 0) (v := 0) (by decide) (by decide), tput_n (D := 0) (v := 0) (by decide) (by decide), tput_n (D := 0) (v := 0) (by decide) (by decide), show nI 0 = (0 : Int32) from rfl]
    have hT7 := tset_pT hT6 (upd (fl 31 (-1) (fun _ => 0)) 0 (nI 1)) (upd (fl 31 (-1) (fun _ => 0)) 0 0) (upd (fun _ => 0) 0 0)
    obtain ⟨g7, eg7⟩ : ∃ g7, g7 = tset g129 0 kb bb ub (upd (fl 31 (-1) (fun _ => 0)) 0 (nI 1)) (upd (fl 31 (-1) (fun _ => 0)) 0 0) (upd (fun _ => 0) 0 0) := ⟨_, rfl⟩
    rw [← eg7] at hT7 ⊢
    have hf7 : fr kT2 g129 g7 := by rw [eg7]; exact fr_tset rfl rfl rfl
    have h17b := hf7.at (k := (1, 0)) rfl h16
    have hE7 := hf7.at (k := (12, 0)) rfl hE6
    have hS7 := pS.fr hS6 hf7 (by decide)
    obtain ⟨ao7, x7, y7, w7, hs7, hs7b, hs7c, hs7d, hs7e⟩ := id hS7
    refine gh_aload_n C dG_init_136 rfl ?_
    refine gh_aload_n C dG_init_137 rfl ?_
    refine gh_get C fG_12 h17b rfl dG_init_138 ?_
    refine gh_callV C [] (c_fresh l d _ hS7 ok2 (by decide)) lG_64 wS_fresh vS_fresh hs7 rfl rfl rfl (Nat.le_of_ble_eq_true rfl) ⟨Nat.le_of_ble_eq_true rfl, Nat.le_of_ble_eq_true rfl⟩ (by (try dsimp only [rr]); omega) (by show 2 * cap 3 - 2 * cap 2 ≤ _; rw [show 2 * cap 3 - 2 * cap 2 = 0 by decide]; exact Nat.zero_le _) dG_init_141 (fun v141 g141 h141 => ?_)
    obtain ⟨rfl, hS8, hf8⟩ := h141
    have h18 := hf8.at (k := (1, 0)) rfl h17b
    have hT8 : pT g141 0 0 t kb bb ub (upd (fl 31 (-1) (fun _ => 0)) 0 (nI 1)) (upd (fl 31 (-1) (fun _ => 0)) 0 0) (upd (fun _ => 0) 0 0) := ⟨hf8.at (k := (13, 0)) rfl hT7.1, hf8.at (k := (14, 0)) rfl hT7.2.1, hf8.at (k := (15, 0)) rfl hT7.2.2.1, hf8.at (k := (16, 0)) rfl hT7.2.2.2.1, by decide⟩
    have hE8 := hf8.at (k := (12, 0)) rfl hE7
    have hf58 : fr (fun k => k == 14 || k == 15 || k == 16 || kS k) g5 g141 := ((hf6.weak (fun k h => by simp at h; exact h.2)).trans (hf7.weak (fun k h => by simp [kT2] at h ⊢; omega))).trans (hf8.weak (fun k h => by simp at h; exact h.2))
    have hf18 : fr (fun k => k == 12 || k == 13 || k == 14 || k == 15 || k == 16 || k == 21 || kS k) g1 g141 := (hf5.weak (fun k h => by simp [kS] at h ⊢; omega)).trans (hf58.weak (fun k h => by simp [kS] at h ⊢; omega))
    have h218 := hf58.at (k := (21, 0)) rfl h21c
    have h118 := hf18.at (k := (11, 0)) rfl h11
    have h78 := hf18.at (k := (7, 0)) rfl h7
    have h80 := hf18.at (k := (8, 0)) rfl (hM 0 (by decide)).1
    refine gh_putL C [.int 0, .ref t, .int (-1), .int (nI 2), .int 0, .int 0, .int 0, .int 0, .int 0] pG_72 (by decide) hE8 rfl (by simp) rfl rfl dG_init_144 ?_
    refine gh_aload_n C dG_init_147 rfl ?_
    refine gh_get C fG_24 ((gh_un (gh_kd (by decide))).trans h18) rfl dG_init_148 ?_
    refine gh_iconst C 0 dG_init_151 (by decide) ?_
    refine gh_aload_n C dG_init_152 rfl ?_
    refine gh_aastN C (0) ((gh_un (gh_kd (by decide))).trans h118) rfl gh_us rfl rfl ⟨by decide, by decide⟩ dG_init_153 ?_
    refine gh_aload_n C dG_init_154 rfl ?_
    refine gh_iconst C 1 dG_init_155 (by decide) ?_
    refine gh_putL C [.ref b2, .ref b7, .ref b11, .int 1, .ref b17, .int 0, .ref b19, .int 0, .ref b21, .ref b22] pG_76 (by decide) ((gh_un (gh_kd (by decide))).trans ((gh_un (gh_kd (by decide))).trans h18)) rfl (by simp) rfl rfl dG_init_156 ?_
    refine gh_aload_n C dG_init_159 rfl ?_
    refine gh_get C fG_40 gh_us rfl dG_init_160 ?_
    refine gh_iconst C 0 dG_init_163 (by decide) ?_
    refine gh_iconst C 0 dG_init_164 (by decide) ?_
    refine gh_iastN C (0) ((gh_un (gh_kd (by decide))).trans ((gh_un (gh_kd (by decide))).trans ((gh_un (gh_kd (by decide))).trans h218))) rfl rfl ⟨by decide, by decide⟩ dG_init_165 ?_
    refine gh_aload_n C dG_init_166 rfl ?_
    refine gh_get C fG_18 ((gh_un (gh_kd (by decide))).trans gh_us) rfl dG_init_167 ?_
    refine gh_iconst C 0 dG_init_170 (by decide) ?_
    refine gh_aaldN C (0) ((gh_un (gh_kd (by decide))).trans ((gh_un (gh_kd (by decide))).trans ((gh_un (gh_kd (by decide))).trans ((gh_un (gh_kd (by decide))).trans h78)))) rfl rfl ⟨by decide, by decide⟩ dG_init_171 ?_
    refine gh_tr (some (za 0)) (h7q 0 (by decide)) ?_
    refine gh_aload_n C dG_init_172 rfl ?_
    refine gh_iconst C 0 dG_init_173 (by decide) ?_
    obtain ⟨g9, eg9⟩ : ∃ g9, g9 = gh_u (gh_u (gh_u (gh_u g141 (12, 0) (w, .inr (3, [.int 0, .ref t, .int (-1), .int (nI 2), .int 0, .int 0, .int 0, .int 0, .int 0]))) (11, 0) (b11, .inl (5, 60, .inr (.inr (.inr (.inr (va_up (fun _ => none) 0 (some w)))))))) (1, 0) (a, .inr (0, [.ref b2, .ref b7, .ref b11, .int 1, .ref b17, .int 0, .ref b19, .int 0, .ref b21, .ref b22]))) (21, 0) (b21, .inl (0, 16, .inl (upd (fl 16 (-1) (fun _ => 0)) 0 0))) := ⟨_, rfl⟩
    rw [← eg9]
    have hf9 : fr (fun k => k == 12 || k == 11 || k == 1 || k == 21) g141 g9 := by rw [eg9]; exact (((fr.rf.u rfl).u rfl).u rfl).u rfl
    have hf19 : fr (fun k => k == 12 || k == 13 || k == 14 || k == 15 || k == 16 || k == 21 || k == 11 || k == 1 || kS k) g1 g9 := (hf18.weak (fun k h => by simp [kS] at h ⊢; omega)).trans (hf9.weak (fun k h => by simp [kS] at h ⊢; omega))
    obtain ⟨Z, eZ⟩ : ∃ Z : ZC, Z = fun k i => if k = 1 then a else if k = 2 then b2 else if k = 7 then b7 else if k = 8 then za i else if k = 9 then zk i else if k = 10 then zu i else if k = 11 then b11 else if k = 12 then w else if k = 13 then t else if k = 14 then kb else if k = 15 then bb else if k = 16 then ub else if k = 17 then b17 else if k = 19 then b19 else if k = 21 then b21 else b22 := ⟨_, rfl⟩
    have hE9 : pE g9 0 w t 0 (-1) (nI 2) 0 0 0 0 0 := by rw [eg9]; exact (gh_un (gh_kd (by decide))).trans ((gh_un (gh_kd (by decide))).trans ((gh_un (gh_kd (by decide))).trans gh_us))
    have hT9 : pT g9 0 0 t kb bb ub (upd (fl 31 (-1) (fun _ => 0)) 0 (nI 1)) (upd (fl 31 (-1) (fun _ => 0)) 0 0) (upd (fun _ => 0) 0 0) := ⟨hf9.at (k := (13, 0)) rfl hT8.1, hf9.at (k := (14, 0)) rfl hT8.2.1, hf9.at (k := (15, 0)) rfl hT8.2.2.1, hf9.at (k := (16, 0)) rfl hT8.2.2.2.1, by decide⟩
    have hA9 : cA g9 Z s00 1 := by
      rw [eZ]
      refine ⟨?_, ?_, ⟨⟨q7, ?_, h7q⟩, fun m hm => ?_⟩, ⟨⟨va_up (fun _ => none) 0 (some w), ?_, fun e he => ?_⟩, fun e he => ?_⟩, ⟨⟨fun _ => none, ?_, fun p hp => ?_⟩, fun p hp => ?_⟩, ⟨fun _ => none, fun _ => 0, ?_, fun j hj => ?_⟩, ?_, ⟨fun _ => 0, ?_⟩, ?_⟩
      · show g9 (1, 0) = _
        rw [eg9]; exact (gh_un (gh_kd (by decide))).trans gh_us
      · exact pS.fr hS8 hf9 (by decide)
      · exact hf9.at (k := (7, 0)) rfl h78
      · exact ⟨hf19.at (k := (8, m)) rfl (hM m hm).1, hf19.at (k := (9, m)) rfl (hM m hm).2.1, hf19.at (k := (10, m)) rfl (hM m hm).2.2⟩
      · rw [eg9]; exact (gh_un (gh_kd (by decide))).trans ((gh_un (gh_kd (by decide))).trans gh_us)
      · have he : e < 1 := he
        have he0 : e = 0 := by omega
        subst he0; rfl
      · have he0 : e = 0 := by omega
        subst he0
        exact ⟨hE9, hT9⟩
      · exact hf9.at (k := (17, 0)) rfl (hf18.at (k := (17, 0)) rfl h17)
      · exact absurd hp (Nat.not_lt_zero p)
      · exact absurd hp (Nat.not_lt_zero p)
      · exact hf9.at (k := (19, 0)) rfl (hf18.at (k := (19, 0)) rfl h19)
      · exact absurd hj (Nat.not_lt_zero j)
      · show g9 (21, 0) = _
        rw [eg9]; exact gh_us
      · exact hf9.at (k := (22, 0)) rfl (hf18.at (k := (22, 0)) rfl h22)
      · exact ok3
    have hm9 := hA9.2.2.1.2 0 (by decide)
    have z8 : Z 8 0 = za 0 := by rw [eZ]; rfl
    have hA10 := hA9.mb (m := 0) (by decide) (nI 0) (nI 0) (nI 2) 0 0 (upd (fl 5 (-1) (fl 5 (-1) (fun _ => 0))) 0 (nI 1))
    have hm9b : pM g9 0 (za 0) (Z 9 0) (Z 10 0) (-1) (-1) (-1) 0 0 (fl 5 (-1) (fun _ => 0)) (fun _ => 0) := by rw [← z8]; exact hm9
    refine gh_callV C [.ref w, .int 0] (c_enter l d _ hm9b hT9 hE9 0 (by decide)) lG_79 wB_enter vB_enter hm9b.1 rfl rfl rfl (Nat.le_of_ble_eq_true rfl) ⟨Nat.le_of_ble_eq_true rfl, Nat.le_of_ble_eq_true rfl⟩ (Nat.le_of_ble_eq_true rfl) (Nat.le_of_ble_eq_true rfl) dG_init_174 (fun v174 g174 h174 => ?_)
    obtain ⟨rfl, rfl⟩ := h174
    refine gh_vret C hQ rfl dG_init_177 ?_
    refine ⟨rfl, Z, by rw [eZ]; rfl, ?_, ?_⟩
    · rw [z8] at hA10; exact hA10
    · exact (hf1.trans (hf19.weak (fun k h => by have := kA_f h; simp [kS]; omega))).trans (fr_mst rfl rfl)
  have loop : ∀ (b2 b7 b11 b17 b19 b21 b22 : Nat) (c i : Nat) (g1 : gh_H) (q7 : Nat → Option Nat) (za zk zu : Nat → Nat), i + c = 16 → g1 (1, 0) = some (a, .inr (0, [.ref b2, .ref b7, .ref b11, .int 0, .ref b17, .int 0, .ref b19, .int 0, .ref b21, .ref b22])) → pS g1 b2 1 0 (upd (fun _ => 0) 0 1) (fun _ => 0) (fun _ => 0) (fun _ => 0) → g1 (7, 0) = some (b7, .inl (4, 16, .inr (.inr (.inr (.inr q7))))) → (∀ m, m < i → q7 m = some (za m)) → (∀ m, m < i → pM g1 m (za m) (zk m) (zu m) (-1) (-1) (-1) 0 0 (fl 5 (-1) (fun _ => 0)) (fun _ => 0)) → g1 (11, 0) = some (b11, .inl (5, 60, .inr (.inr (.inr (.inr (fun _ => none)))))) → g1 (17, 0) = some (b17, .inl (6, 60, .inr (.inr (.inr (.inr (fun _ => none)))))) → g1 (19, 0) = some (b19, .inl (7, 20, .inr (.inr (.inr (.inr (fun _ => none)))))) → g1 (21, 0) = some (b21, .inl (0, 16, .inl (fun _ => 0))) → g1 (22, 0) = some (b22, .inl (0, 146, .inl (fun _ => 0))) → fr kA g g1 → gh_W l d z 70 [some (.ref a), some (.int (nI i))] [] g1 (10 + 3 * c) (500 + 32 * c) := by
    intro b2 b7 b11 b17 b19 b21 b22 c
    induction c with
    | zero =>
      intro i g1 q7 za zk zu hi h1 hS h7 h7q hM h11 h17 h19 h21 h22 hf1
      have hi : i = 16 := by omega
      subst hi
      refine gh_iload_n C dG_init_70 rfl ?_
      refine gh_bipush C 16 dG_init_71 (by decide) ?_
      refine gh_icmp_ge C 95 dG_init_73 (by decide) (fun c73 => ?_) (fun c73 => ?_)
      ·
        exact tail b2 b7 b11 b17 b19 b21 b22 g1 _ q7 za zk zu h1 hS h7 h7q hM h11 h17 h19 h21 h22 hf1
      · exact absurd (show (16 : Int32) ≤ nI 16 from nI_le (Nat.le_refl 16) (by decide)) c73
    | succ c ih =>
      intro i g1 q7 za zk zu hi h1 hS h7 h7q hM h11 h17 h19 h21 h22 hf1
      refine gh_iload_n C dG_init_70 rfl ?_
      refine gh_bipush C 16 dG_init_71 (by decide) ?_
      refine gh_icmp_ge C 95 dG_init_73 (by decide) (fun c73 => ?_) (fun c73 => ?_)
      · exact absurd c73 (show ¬ nI 16 ≤ nI i from nI_ge (by omega) (by decide))
      ·
        refine gh_aload_n C dG_init_76 rfl ?_
        refine gh_get C fG_18 h1 rfl dG_init_77 ?_
        refine gh_iload_n C dG_init_80 rfl ?_
        refine gh_new C (8, i) zG_16 (10 + 3 * c + 2) (500 + 32 * c + 25) (by (try dsimp only [rr]); omega) (by (try dsimp only [rr]); omega) dG_init_81 (fun w nw => ?_)
        refine gh_dup C dG_init_84 rfl ?_
        refine gh_callI C [] (c_Member l d _ (m := i) gh_us) lG_47 wB_init iB_init rfl rfl rfl rfl (Nat.le_of_ble_eq_true rfl) ⟨Nat.le_of_ble_eq_true rfl, Nat.le_of_ble_eq_true rfl⟩ (by (try dsimp only [rr]); omega) (by (try dsimp only [rr]); omega) dG_init_85 (fun v85 g85 h85 => ?_)
        obtain ⟨rfl, ka, ua, rfl⟩ := h85
        refine gh_aastN C (i) ((gh_un (gh_kd (by decide))).trans ((gh_un (gh_kd (by decide))).trans ((gh_un (gh_kd (by decide))).trans ((gh_un (gh_kd (by decide))).trans h7)))) rfl gh_us rfl rfl ⟨by omega, by decide⟩ dG_init_88 ?_
        refine gh_iinc C (nI (i + 1)) [some (.ref a), some (.int (nI (i + 1)))] dG_init_89 rfl (gh_inc i) rfl ?_
        refine gh_goto C 70 dG_init_92 (by decide) ?_
        refine gh_less C (10 + 3 * c) (500 + 32 * c) (by (try dsimp only [rr]); omega) (by (try dsimp only [rr]); omega) ?_
        obtain ⟨g3, eg3⟩ : ∃ g3, g3 = gh_u (gh_u (gh_u (gh_u g1 (8, i) (w, .inr (2, [.int 0, .int 0, .int 0, .int 0, .null, .null, .int 0]))) (9, i) (ka, .inl (0, 5, .inl (fl 5 (-1) (fun _ => 0))))) (10, i) (ua, .inl (0, 20, .inl (fun _ => 0)))) (8, i) (w, .inr (2, [.int (-1), .int (-1), .int (-1), .int 0, .ref ka, .ref ua, .int (nI 0)])) := ⟨_, rfl⟩
        rw [← eg3]
        have hf3 : fr (fun k => k == 8 || k == 9 || k == 10) g1 g3 := by rw [eg3]; exact (((fr.rf.u rfl).u rfl).u rfl).u rfl
        have hfa : fr k0 g1 (gh_u g3 (7, 0) (b7, .inl (4, 16, .inr (.inr (.inr (.inr (va_up q7 i (some w)))))))) := (hf3.weak (fun k h => by simp [k0] at h ⊢; omega)).u rfl
        refine ih (i + 1) _ (va_up q7 i (some w)) (fun j => if j = i then w else za j) (fun j => if j = i then ka else zk j) (fun j => if j = i then ua else zu j) (by omega) (hfa.at rfl h1) (pS.fr hS hfa (by decide)) gh_us (fun m hm => ?_) (fun m hm => ?_) (hfa.at rfl h11) (hfa.at rfl h17) (hfa.at rfl h19) (hfa.at rfl h21) (hfa.at rfl h22) (hf1.trans (hfa.weak (fun k h => by have := kA_f h; simp [k0]; omega)))
        · by_cases h : m = i
          · simp [va_up, h]
          · simp [va_up, h]; exact h7q m (by omega)
        · by_cases h : m = i
          · subst h
            simp only [if_true]
            refine ⟨(gh_un (gh_kd (by decide))).trans ?_, (gh_un (gh_kd (by decide))).trans ?_, (gh_un (gh_kd (by decide))).trans ?_⟩
            · rw [eg3]; exact gh_us
            · rw [eg3]; exact (gh_un (gh_kd (by decide))).trans ((gh_un (gh_kd (by decide))).trans gh_us)
            · rw [eg3]; exact (gh_un (gh_kd (by decide))).trans gh_us
          · simp only [if_neg h]
            have h4 := hM m (by omega)
            refine ⟨(gh_un (gh_kd (by decide))).trans ?_, (gh_un (gh_kd (by decide))).trans ?_, (gh_un (gh_kd (by decide))).trans ?_⟩
            · rw [eg3, gh_un (gh_kx h), gh_un (gh_kd (by decide)), gh_un (gh_kd (by decide)), gh_un (gh_kx h)]; exact h4.1
            · rw [eg3, gh_un (gh_kd (by decide)), gh_un (gh_kd (by decide)), gh_un (gh_kx h), gh_un (gh_kd (by decide))]; exact h4.2.1
            · rw [eg3, gh_un (gh_kd (by decide)), gh_un (gh_kx h), gh_un (gh_kd (by decide)), gh_un (gh_kd (by decide))]; exact h4.2.2
  refine gh_aload_n C dG_init_0 rfl ?_
  refine gh_obj C oG_3 oo_i oo_c (Nat.le_of_ble_eq_true rfl) ⟨Nat.le_of_ble_eq_true rfl, Nat.le_of_ble_eq_true rfl⟩ dG_init_1 ?_
  refine gh_aload_n C dG_init_4 rfl ?_
  refine gh_new C (2, 0) zG_9 69 1994 (by (try dsimp only [rr]); omega) (by (try dsimp only [rr]); omega) dG_init_5 (fun b2 nb2 => ?_)
  refine gh_dup C dG_init_8 rfl ?_
  refine gh_callI C [] (c_Secrets l d _ gh_us) lG_11 wS_init iS_init rfl rfl rfl rfl (Nat.le_of_ble_eq_true rfl) ⟨Nat.le_of_ble_eq_true rfl, Nat.le_of_ble_eq_true rfl⟩ (by (try dsimp only [rr]); omega) (by (try dsimp only [rr]); omega) dG_init_9 (fun v9 g9 h9 => ?_)
  obtain ⟨rfl, hS0, hfS⟩ := h9
  have hg0 := hfS.at (k := (1, 0)) rfl ((gh_un (gh_kd (by decide))).trans hg)
  obtain ⟨ao0, x0, y0, w0, hs0, hs0b, hs0c, hs0d, hs0e⟩ := id hS0
  refine gh_putL C [.ref b2, .null, .null, .int 0, .null, .int 0, .null, .int 0, .null, .null] pG_12 (by decide) hg0 rfl (by simp) rfl rfl dG_init_12 ?_
  refine gh_aload_n C dG_init_15 rfl ?_
  refine gh_bipush C 16 dG_init_16 (by decide) ?_
  refine gh_anew C (t := 4) (N := 16) (7, 0) rfl kG_16 nw_4 (by decide) (by decide) (by decide) 64 1720 (by (try dsimp only [rr]); omega) (by (try dsimp only [rr]); omega) dG_init_18 (fun b7 nb7 => ?_)
  refine gh_putL C [.ref b2, .ref b7, .null, .int 0, .null, .int 0, .null, .int 0, .null, .null] pG_18 (by decide) ((gh_un (gh_kd (by decide))).trans gh_us) rfl (by simp) rfl rfl dG_init_21 ?_
  refine gh_aload_n C dG_init_24 rfl ?_
  refine gh_bipush C 60 dG_init_25 (by decide) ?_
  refine gh_anew C (t := 5) (N := 60) (11, 0) rfl kG_22 nw_5 (by decide) (by decide) (by decide) 63 1660 (by (try dsimp only [rr]); omega) (by (try dsimp only [rr]); omega) dG_init_27 (fun b11 nb11 => ?_)
  refine gh_putL C [.ref b2, .ref b7, .ref b11, .int 0, .null, .int 0, .null, .int 0, .null, .null] pG_24 (by decide) ((gh_un (gh_kd (by decide))).trans gh_us) rfl (by simp) rfl rfl dG_init_30 ?_
  refine gh_aload_n C dG_init_33 rfl ?_
  refine gh_bipush C 60 dG_init_34 (by decide) ?_
  refine gh_anew C (t := 6) (N := 60) (17, 0) rfl kG_28 nw_6 (by decide) (by decide) (by decide) 62 1600 (by (try dsimp only [rr]); omega) (by (try dsimp only [rr]); omega) dG_init_36 (fun b17 nb17 => ?_)
  refine gh_putL C [.ref b2, .ref b7, .ref b11, .int 0, .ref b17, .int 0, .null, .int 0, .null, .null] pG_30 (by decide) ((gh_un (gh_kd (by decide))).trans gh_us) rfl (by simp) rfl rfl dG_init_39 ?_
  refine gh_aload_n C dG_init_42 rfl ?_
  refine gh_bipush C 20 dG_init_43 (by decide) ?_
  refine gh_anew C (t := 7) (N := 20) (19, 0) rfl kG_34 nw_7 (by decide) (by decide) (by decide) 61 1580 (by (try dsimp only [rr]); omega) (by (try dsimp only [rr]); omega) dG_init_45 (fun b19 nb19 => ?_)
  refine gh_putL C [.ref b2, .ref b7, .ref b11, .int 0, .ref b17, .int 0, .ref b19, .int 0, .null, .null] pG_36 (by decide) ((gh_un (gh_kd (by decide))).trans gh_us) rfl (by simp) rfl rfl dG_init_48 ?_
  refine gh_aload_n C dG_init_51 rfl ?_
  refine gh_bipush C 16 dG_init_52 (by decide) ?_
  refine gh_newaI C (21, 0) (16) ⟨rfl, by decide⟩ 60 1564 (by (try dsimp only [rr]); omega) (by (try dsimp only [rr]); omega) dG_init_54 (fun b21 nb21 => ?_)
  refine gh_putL C [.ref b2, .ref b7, .ref b11, .int 0, .ref b17, .int 0, .ref b19, .int 0, .ref b21, .null] pG_40 (by decide) ((gh_un (gh_kd (by decide))).trans gh_us) rfl (by simp) rfl rfl dG_init_56 ?_
  refine gh_aload_n C dG_init_59 rfl ?_
  refine gh_sipush C 146 dG_init_60 (by decide) ?_
  refine gh_newaI C (22, 0) (146) ⟨rfl, by decide⟩ 59 1418 (by (try dsimp only [rr]); omega) (by (try dsimp only [rr]); omega) dG_init_63 (fun b22 nb22 => ?_)
  refine gh_putL C [.ref b2, .ref b7, .ref b11, .int 0, .ref b17, .int 0, .ref b19, .int 0, .ref b21, .ref b22] pG_44 (by decide) ((gh_un (gh_kd (by decide))).trans gh_us) rfl (by simp) rfl rfl dG_init_65 ?_
  refine gh_iconst C 0 dG_init_68 (by decide) ?_
  refine gh_istore_n C [some (.ref a), some (.int 0)] dG_init_69 rfl (Nat.le_of_ble_eq_true rfl) ?_
  refine gh_less C (10 + 3 * 16) (500 + 32 * 16) (by (try dsimp only [rr]); omega) (by (try dsimp only [rr]); omega) ?_
  refine loop b2 b7 b11 b17 b19 b21 b22 16 0 _ (fun _ => none) (fun _ => 0) (fun _ => 0) (fun _ => 0) (by omega) gh_us ?_ ((gh_un (gh_kd (by decide))).trans ((gh_un (gh_kd (by decide))).trans ((gh_un (gh_kd (by decide))).trans ((gh_un (gh_kd (by decide))).trans ((gh_un (gh_kd (by decide))).trans ((gh_un (gh_kd (by decide))).trans ((gh_un (gh_kd (by decide))).trans ((gh_un (gh_kd (by decide))).trans ((gh_un (gh_kd (by decide))).trans ((gh_un (gh_kd (by decide))).trans ((gh_un (gh_kd (by decide))).trans gh_us))))))))))) (fun m hm => absurd hm (Nat.not_lt_zero m)) (fun m hm => absurd hm (Nat.not_lt_zero m)) ((gh_un (gh_kd (by decide))).trans ((gh_un (gh_kd (by decide))).trans ((gh_un (gh_kd (by decide))).trans ((gh_un (gh_kd (by decide))).trans ((gh_un (gh_kd (by decide))).trans ((gh_un (gh_kd (by decide))).trans ((gh_un (gh_kd (by decide))).trans ((gh_un (gh_kd (by decide))).trans ((gh_un (gh_kd (by decide))).trans gh_us))))))))) ((gh_un (gh_kd (by decide))).trans ((gh_un (gh_kd (by decide))).trans ((gh_un (gh_kd (by decide))).trans ((gh_un (gh_kd (by decide))).trans ((gh_un (gh_kd (by decide))).trans ((gh_un (gh_kd (by decide))).trans ((gh_un (gh_kd (by decide))).trans gh_us))))))) ((gh_un (gh_kd (by decide))).trans ((gh_un (gh_kd (by decide))).trans ((gh_un (gh_kd (by decide))).trans ((gh_un (gh_kd (by decide))).trans ((gh_un (gh_kd (by decide))).trans gh_us))))) ((gh_un (gh_kd (by decide))).trans ((gh_un (gh_kd (by decide))).trans ((gh_un (gh_kd (by decide))).trans gh_us))) ((gh_un (gh_kd (by decide))).trans gh_us) ?_
  · exact pS.fr (P := fun k => k == 1 || k == 7 || k == 11 || k == 17 || k == 19 || k == 21 || k == 22) hS0 (((((((((((((fr.rf.u rfl).u rfl).u rfl).u rfl).u rfl).u rfl).u rfl).u rfl).u rfl).u rfl).u rfl).u rfl).u rfl) (by decide)
  · exact (((((((((((((((fr.rf.u rfl).trans (hfS.weak (fun k h => kS_kA h))).u rfl).u rfl).u rfl).u rfl).u rfl).u rfl).u rfl).u rfl).u rfl).u rfl).u rfl).u rfl).u rfl)
