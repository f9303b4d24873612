/-! SECRETS: n are made, o says which are out; r rules f1, f2, f3 -/
def cap (n : Nat) : Nat := if n ≤ 64 then 64 else if n ≤ 128 then 128 else if n ≤ 256 then 256 else if n ≤ 512 then 512 else if n ≤ 1024 then 1024 else if n ≤ 2048 then 2048 else 4096
theorem cap_ge {n : Nat} (h : n ≤ 4096) : n ≤ cap n := by unfold cap; (repeat' split) <;> omega
theorem cap_le (n : Nat) : cap n ≤ 4096 := by unfold cap; (repeat' split) <;> omega
theorem cap_64 (n : Nat) : 64 ≤ cap n := by unfold cap; (repeat' split) <;> omega
theorem cap_mono {n m : Nat} (h : n ≤ m) : cap n ≤ cap m := by unfold cap; (repeat' split) <;> omega
theorem cap_keep {n : Nat} (h : n < cap n) : cap (n + 1) = cap n := by unfold cap at h ⊢; (repeat' split at h) <;> ((repeat' split) <;> omega)
theorem cap_grow {n : Nat} (h : ¬ n < cap n) (h2 : n < 4096) : cap n = n ∧ cap (n + 1) = 2 * n := by
  unfold cap at h ⊢
  (repeat' split at h) <;> (first | omega | (refine And.intro ?_ ?_ <;> ((repeat' split) <;> omega)))
def pS (g : gh_H) (a n r : Nat) (o f1 f2 f3 : Nat → Int32) : Prop := ∃ ao a1 a2 a3 : Nat, g (2, 0) = some (a, .inr (1, [.ref ao, .int (nI n), .ref a1, .ref a2, .ref a3, .int (nI r)])) ∧ g (3, 0) = some (ao, .inl (1, cap n, .inl o)) ∧ g (4, 0) = some (a1, .inl (0, cap r, .inl f1)) ∧ g (5, 0) = some (a2, .inl (0, cap r, .inl f2)) ∧ g (6, 0) = some (a3, .inl (0, cap r, .inl f3))
def okS (n r : Nat) (o f1 f2 f3 : Nat → Int32) : Prop := n ≤ 4096 ∧ r ≤ 4096 ∧ (∀ j, o j = 0 ∨ o j = 1) ∧ (∀ j, n ≤ j → o j = 0) ∧ ∀ j, r ≤ j → f1 j = 0 ∧ f2 j = 0 ∧ f3 j = 0
theorem pS.fr {P : Nat → Bool} {g g1 : gh_H} {a n r : Nat} {o f1 f2 f3 : Nat → Int32} (h : pS g a n r o f1 f2 f3) (hf : fr P g g1) (hP : P 2 = false ∧ P 3 = false ∧ P 4 = false ∧ P 5 = false ∧ P 6 = false) : pS g1 a n r o f1 f2 f3 := by
  obtain ⟨ao, a1, a2, a3, h1, h2, h3, h4, h5⟩ := h
  exact ⟨ao, a1, a2, a3, hf.at hP.1 h1, hf.at hP.2.1 h2, hf.at hP.2.2.1 h3, hf.at hP.2.2.2.1 h4, hf.at hP.2.2.2.2 h5⟩
theorem ext_o {n : Nat} {o : Nat → Int32} (h : ∀ j, n ≤ j → o j = 0) : ext n o = o := by
  funext j
  unfold ext
  split
  · rfl
  · exact (h j (by omega)).symm
theorem fit01 {o : Nat → Int32} (h : ∀ j, o j = 0 ∨ o j = 1) (j : Nat) : fits .byte (.int (o j)) = true := by rcases h j with e | e <;> rw [e] <;> rfl
def kS (k : Nat) : Bool := k == 2 || k == 3 || k == 4 || k == 5 || k == 6 || decide (60 ≤ k)
set_option maxRecDepth 100000 in
set_option maxHeartbeats 4000000 in
theorem c_fresh (l : Launch) (d : gh_D) (g : gh_H) {a n r : Nat} {o f1 f2 f3 : Nat → Int32} (hp : pS g a n r o f1 f2 f3) (ok : okS n r o f1 f2 f3) (hn : n < 4096) : gh_C l d mS_fresh (rr 3 1 (2 * cap (n + 1) - 2 * cap n)) [.ref a] g (fun v g1 => v = some (.int (nI n)) ∧ pS g1 a (n + 1) r o f1 f2 f3 ∧ fr kS g g1) := by
  obtain ⟨ao, a1, a2, a3, h1, h2, h3, h4, h5⟩ := hp
  have h64 := cap_64 n
  have h65 := cap_64 r
  have hle := cap_le n
  have hge := cap_ge ok.1
  have hn4 := ok.1
  have hr4 := ok.2.1
  refine gh_of [some (.ref a)] (by decide) rfl (Nat.le_of_ble_eq_true rfl) (by simp [Value.category]) (fun z C hQ => ?_)
  show gh_W l d z 0 [some (.ref a)] [] g 1 (2 * cap (n + 1) - 2 * cap n)
  refine gh_aload_n C dS_fresh_0 rfl ?_
  refine gh_get C fS_25 h1 rfl dS_fresh_1 ?_
  refine gh_aload_n C dS_fresh_4 rfl ?_
  refine gh_get C fS_11 h1 rfl dS_fresh_5 ?_
  refine gh_alen C h2 rfl dS_fresh_8 ?_
  refine gh_icmp_lt C 40 dS_fresh_9 (by decide) (fun c9 => ?_) (fun c9 => ?_)
  ·
    have hlt : n < cap n := (nI_ltI (by omega) (by omega)).mp c9
    skip
    refine gh_aload_n C dS_fresh_40 rfl ?_
    refine gh_get C fS_25 h1 rfl dS_fresh_41 ?_
    refine gh_aload_n C dS_fresh_44 rfl ?_
    refine gh_get C fS_11 h1 rfl dS_fresh_45 ?_
    refine gh_alen C h2 rfl dS_fresh_48 ?_
    refine gh_icmp_lt C 54 dS_fresh_49 (by decide) (fun c49 => ?_) (fun c49 => ?_)
    ·
      skip
      refine gh_aload_n C dS_fresh_54 rfl ?_
      refine gh_dup C dS_fresh_55 rfl ?_
      refine gh_get C fS_25 h1 rfl dS_fresh_56 ?_
      refine gh_iconst C 1 dS_fresh_59 (by decide) ?_
      refine gh_iadd C dS_fresh_60 ?_
      refine gh_ti (nI (n + 1)) (nI_1 n) ?_
      refine gh_putL C [.ref ao, .int (nI (n + 1)), .ref a1, .ref a2, .ref a3, .int (nI r)] pS_25 (by decide) h1 rfl (by simp) rfl rfl dS_fresh_61 ?_
      refine gh_aload_n C dS_fresh_64 rfl ?_
      refine gh_get C fS_25 gh_us rfl dS_fresh_65 ?_
      refine gh_iconst C 1 dS_fresh_68 (by decide) ?_
      refine gh_isub C dS_fresh_69 ?_
      refine gh_ti (nI n) (nI_pred n) ?_
      refine gh_iret C hQ rfl dS_fresh_70 ?_
      exact ⟨rfl, by rw [pS]; rw [cap_keep hlt]; exact ⟨ao, a1, a2, a3, gh_us, ((gh_un (gh_kd (by decide))).trans h2), ((gh_un (gh_kd (by decide))).trans h3), ((gh_un (gh_kd (by decide))).trans h4), ((gh_un (gh_kd (by decide))).trans h5)⟩, (fr.rf.u rfl)⟩
    · first | exact absurd (nI_lt hlt (by omega)) c49 | exact absurd (nI_lt (show n < cap (n + 1) by omega) (by omega)) c49
  ·
    have hnl : ¬ n < cap n := fun h => c9 (nI_lt h (by omega))
    obtain ⟨hc1, hc2⟩ := cap_grow hnl hn
    refine gh_aload_n C dS_fresh_12 rfl ?_
    refine gh_get C fS_25 h1 rfl dS_fresh_13 ?_
    refine gh_sipush C 4096 dS_fresh_16 (by decide) ?_
    refine gh_icmp_ge C 40 dS_fresh_19 (by decide) (fun c19 => ?_) (fun c19 => ?_)
    · exact absurd c19 (show ¬ nI 4096 ≤ nI n from nI_ge hn (by omega))
    ·
      refine gh_aload_n C dS_fresh_22 rfl ?_
      refine gh_aload_n C dS_fresh_23 rfl ?_
      refine gh_get C fS_11 h1 rfl dS_fresh_24 ?_
      refine gh_iconst C 2 dS_fresh_27 (by decide) ?_
      refine gh_aload_n C dS_fresh_28 rfl ?_
      refine gh_get C fS_11 h1 rfl dS_fresh_29 ?_
      refine gh_alen C h2 rfl dS_fresh_32 ?_
      refine gh_imul C dS_fresh_33 ?_
      refine gh_ti (nI (2 * cap n)) (by rw [show (2 : Int32) = nI 2 from rfl, pk_mul]) ?_
      refine gh_callS C [.ref ao, .int (nI (2 * cap n))] (c_copyOfB l d _ (2 * cap n) h2 (gh_kd (by decide)) (by have := cap_64 n; omega) (by omega) (fit01 ok.2.2.1)) lS_29 wA_copyOf0 sA_copyOf0 rfl rfl (Nat.le_of_ble_eq_true rfl) ⟨Nat.le_of_ble_eq_true rfl, Nat.le_of_ble_eq_true rfl⟩ (Nat.le_of_ble_eq_true rfl) (by show 2 * cap n ≤ _; omega) dS_fresh_34 (fun v34 g34 h34 => ?_)
      simp only [ext_o (show ∀ j, cap n ≤ j → o j = 0 from fun j hj => ok.2.2.2.1 j (by omega)), show 2 * cap n = cap (n + 1) by omega] at h34
      obtain ⟨q, rfl, rfl⟩ := h34
      refine gh_putL C [.ref q, .int (nI n), .ref a1, .ref a2, .ref a3, .int (nI r)] pS_11 (by decide) ((gh_un (gh_kd (by decide))).trans h1) rfl (by simp) rfl rfl dS_fresh_37 ?_
      refine gh_move C (61, 0) (3, 0) ?_
      refine gh_aload_n C dS_fresh_40 rfl ?_
      refine gh_get C fS_25 ((gh_mv_o (gh_kd (by decide)) (gh_kd (by decide))).trans gh_us) rfl dS_fresh_41 ?_
      refine gh_aload_n C dS_fresh_44 rfl ?_
      refine gh_get C fS_11 ((gh_mv_o (gh_kd (by decide)) (gh_kd (by decide))).trans gh_us) rfl dS_fresh_45 ?_
      refine gh_alen C (gh_mv_k.trans ((gh_un (gh_kd (by decide))).trans gh_us)) rfl dS_fresh_48 ?_
      refine gh_icmp_lt C 54 dS_fresh_49 (by decide) (fun c49 => ?_) (fun c49 => ?_)
      ·
        skip
        refine gh_aload_n C dS_fresh_54 rfl ?_
        refine gh_dup C dS_fresh_55 rfl ?_
        refine gh_get C fS_25 ((gh_mv_o (gh_kd (by decide)) (gh_kd (by decide))).trans gh_us) rfl dS_fresh_56 ?_
        refine gh_iconst C 1 dS_fresh_59 (by decide) ?_
        refine gh_iadd C dS_fresh_60 ?_
        refine gh_ti (nI (n + 1)) (nI_1 n) ?_
        refine gh_putL C [.ref q, .int (nI (n + 1)), .ref a1, .ref a2, .ref a3, .int (nI r)] pS_25 (by decide) ((gh_mv_o (gh_kd (by decide)) (gh_kd (by decide))).trans gh_us) rfl (by simp) rfl rfl dS_fresh_61 ?_
        refine gh_aload_n C dS_fresh_64 rfl ?_
        refine gh_get C fS_25 gh_us rfl dS_fresh_65 ?_
        refine gh_iconst C 1 dS_fresh_68 (by decide) ?_
        refine gh_isub C dS_fresh_69 ?_
        refine gh_ti (nI n) (nI_pred n) ?_
        refine gh_iret C hQ rfl dS_fresh_70 ?_
        exact ⟨rfl, ⟨q, a1, a2, a3, gh_us, ((gh_un (gh_kd (by decide))).trans (gh_mv_k.trans ((gh_un (gh_kd (by decide))).trans gh_us))), ((gh_un (gh_kd (by decide))).trans ((gh_mv_o (gh_kd (by decide)) (gh_kd (by decide))).trans ((gh_un (gh_kd (by decide))).trans ((gh_un (gh_kd (by decide))).trans h3)))), ((gh_un (gh_kd (by decide))).trans ((gh_mv_o (gh_kd (by decide)) (gh_kd (by decide))).trans ((gh_un (gh_kd (by decide))).trans ((gh_un (gh_kd (by decide))).trans h4)))), ((gh_un (gh_kd (by decide))).trans ((gh_mv_o (gh_kd (by decide)) (gh_kd (by decide))).trans ((gh_un (gh_kd (by decide))).trans ((gh_un (gh_kd (by decide))).trans h5))))⟩, ((((fr.rf.u rfl).u rfl).mv rfl rfl).u rfl)⟩
      · first | exact absurd (nI_lt hlt (by omega)) c49 | exact absurd (nI_lt (show n < cap (n + 1) by omega) (by omega)) c49
set_option maxRecDepth 100000 in
set_option maxHeartbeats 4000000 in
theorem c_tie (l : Launch) (d : gh_D) (g : gh_H) {a n r : Nat} {o f1 f2 f3 : Nat → Int32} (hp : pS g a n r o f1 f2 f3) (ok : okS n r o f1 f2 f3) (hr : r < 4096) (x y w : Int32) : gh_C l d mS_tie (rr 3 3 (6 * cap (r + 1) - 6 * cap r)) [.ref a, .int x, .int y, .int w] g (fun v g1 => v = none ∧ pS g1 a n (r + 1) o (upd f1 r x) (upd f2 r y) (upd f3 r w) ∧ fr kS g g1) := by
  obtain ⟨ao, a1, a2, a3, h1, h2, h3, h4, h5⟩ := hp
  have h64 := cap_64 n
  have h65 := cap_64 r
  have hle := cap_le n
  have hge := cap_ge ok.1
  have hn4 := ok.1
  have hr4 := ok.2.1
  have hle2 := cap_le r
  have hge2 := cap_ge ok.2.1
  refine gh_of [some (.ref a), some (.int x), some (.int y), some (.int w)] (by decide) rfl (Nat.le_of_ble_eq_true rfl) (by simp [Value.category]) (fun z C hQ => ?_)
  show gh_W l d z 0 [some (.ref a), some (.int x), some (.int y), some (.int w)] [] g 3 (6 * cap (r + 1) - 6 * cap r)
  refine gh_aload_n C dS_tie_0 rfl ?_
  refine gh_get C fS_47 h1 rfl dS_tie_1 ?_
  refine gh_aload_n C dS_tie_4 rfl ?_
  refine gh_get C fS_22 h1 rfl dS_tie_5 ?_
  refine gh_alen C h5 rfl dS_tie_8 ?_
  refine gh_icmp_lt C 76 dS_tie_9 (by decide) (fun c9 => ?_) (fun c9 => ?_)
  ·
    have hlt : r < cap r := (nI_ltI (by omega) (by omega)).mp c9
    skip
    refine gh_aload_n C dS_tie_76 rfl ?_
    refine gh_get C fS_47 h1 rfl dS_tie_77 ?_
    refine gh_aload_n C dS_tie_80 rfl ?_
    refine gh_get C fS_22 h1 rfl dS_tie_81 ?_
    refine gh_alen C h5 rfl dS_tie_84 ?_
    refine gh_icmp_lt C 89 dS_tie_85 (by decide) (fun c85 => ?_) (fun c85 => ?_)
    ·
      skip
      refine gh_aload_n C dS_tie_89 rfl ?_
      refine gh_get C fS_15 h1 rfl dS_tie_90 ?_
      refine gh_aload_n C dS_tie_93 rfl ?_
      refine gh_get C fS_47 h1 rfl dS_tie_94 ?_
      refine gh_iload_n C dS_tie_97 rfl ?_
      refine gh_iastN C (r) h3 rfl rfl ⟨by first | exact hlt | omega, by omega⟩ dS_tie_98 ?_
      refine gh_aload_n C dS_tie_99 rfl ?_
      refine gh_get C fS_19 ((gh_un (gh_kd (by decide))).trans h1) rfl dS_tie_100 ?_
      refine gh_aload_n C dS_tie_103 rfl ?_
      refine gh_get C fS_47 ((gh_un (gh_kd (by decide))).trans h1) rfl dS_tie_104 ?_
      refine gh_iload_n C dS_tie_107 rfl ?_
      refine gh_iastN C (r) ((gh_un (gh_kd (by decide))).trans h4) rfl rfl ⟨by first | exact hlt | omega, by omega⟩ dS_tie_108 ?_
      refine gh_aload_n C dS_tie_109 rfl ?_
      refine gh_get C fS_22 ((gh_un (gh_kd (by decide))).trans ((gh_un (gh_kd (by decide))).trans h1)) rfl dS_tie_110 ?_
      refine gh_aload_n C dS_tie_113 rfl ?_
      refine gh_get C fS_47 ((gh_un (gh_kd (by decide))).trans ((gh_un (gh_kd (by decide))).trans h1)) rfl dS_tie_114 ?_
      refine gh_iload_n C dS_tie_117 rfl ?_
      refine gh_iastN C (r) ((gh_un (gh_kd (by decide))).trans ((gh_un (gh_kd (by decide))).trans h5)) rfl rfl ⟨by first | exact hlt | omega, by omega⟩ dS_tie_118 ?_
      refine gh_aload_n C dS_tie_119 rfl ?_
      refine gh_dup C dS_tie_120 rfl ?_
      refine gh_get C fS_47 ((gh_un (gh_kd (by decide))).trans ((gh_un (gh_kd (by decide))).trans ((gh_un (gh_kd (by decide))).trans h1))) rfl dS_tie_121 ?_
      refine gh_iconst C 1 dS_tie_124 (by decide) ?_
      refine gh_iadd C dS_tie_125 ?_
      refine gh_ti (nI (r + 1)) (nI_1 r) ?_
      refine gh_putL C [.ref ao, .int (nI n), .ref a1, .ref a2, .ref a3, .int (nI (r + 1))] pS_47 (by decide) ((gh_un (gh_kd (by decide))).trans ((gh_un (gh_kd (by decide))).trans ((gh_un (gh_kd (by decide))).trans h1))) rfl (by simp) rfl rfl dS_tie_126 ?_
      refine gh_vret C hQ rfl dS_tie_129 ?_
      exact ⟨rfl, by rw [pS]; rw [cap_keep hlt]; exact ⟨ao, a1, a2, a3, gh_us, ((gh_un (gh_kd (by decide))).trans ((gh_un (gh_kd (by decide))).trans ((gh_un (gh_kd (by decide))).trans ((gh_un (gh_kd (by decide))).trans h2)))), ((gh_un (gh_kd (by decide))).trans ((gh_un (gh_kd (by decide))).trans ((gh_un (gh_kd (by decide))).trans gh_us))), ((gh_un (gh_kd (by decide))).trans ((gh_un (gh_kd (by decide))).trans gh_us)), ((gh_un (gh_kd (by decide))).trans gh_us)⟩, ((((fr.rf.u rfl).u rfl).u rfl).u rfl)⟩
    · first | exact absurd (nI_lt hlt (by omega)) c85 | exact absurd (nI_lt (show r < cap (r + 1) by omega) (by omega)) c85
  ·
    have hnl : ¬ r < cap r := fun h => c9 (nI_lt h (by omega))
    obtain ⟨hc1, hc2⟩ := cap_grow hnl hr
    refine gh_aload_n C dS_tie_12 rfl ?_
    refine gh_get C fS_47 h1 rfl dS_tie_13 ?_
    refine gh_sipush C 4096 dS_tie_16 (by decide) ?_
    refine gh_icmp_ge C 76 dS_tie_19 (by decide) (fun c19 => ?_) (fun c19 => ?_)
    · exact absurd c19 (show ¬ nI 4096 ≤ nI r from nI_ge hr (by omega))
    ·
      refine gh_aload_n C dS_tie_22 rfl ?_
      refine gh_aload_n C dS_tie_23 rfl ?_
      refine gh_get C fS_15 h1 rfl dS_tie_24 ?_
      refine gh_iconst C 2 dS_tie_27 (by decide) ?_
      refine gh_aload_n C dS_tie_28 rfl ?_
      refine gh_get C fS_15 h1 rfl dS_tie_29 ?_
      refine gh_alen C h3 rfl dS_tie_32 ?_
      refine gh_imul C dS_tie_33 ?_
      refine gh_ti (nI (2 * cap r)) (by rw [show (2 : Int32) = nI 2 from rfl, pk_mul]) ?_
      refine gh_callS C [.ref a1, .int (nI (2 * cap r))] (c_copyOfI l d _ (2 * cap r) h3 (gh_kd (by decide)) (by omega) (by omega) (fun _ => rfl)) lS_50 wA_copyOf1 sA_copyOf1 rfl rfl (Nat.le_of_ble_eq_true rfl) ⟨Nat.le_of_ble_eq_true rfl, Nat.le_of_ble_eq_true rfl⟩ (Nat.le_of_ble_eq_true rfl) (by dsimp only [rr]; omega) dS_tie_34 (fun v34 g34 h34 => ?_)
      simp only [ext_o (show ∀ j, cap r ≤ j → f1 j = 0 from fun j hj => (ok.2.2.2.2 j (by omega)).1), show 2 * cap r = cap (r + 1) by omega] at h34
      obtain ⟨q34, rfl, rfl⟩ := h34
      refine gh_putL C [.ref ao, .int (nI n), .ref q34, .ref a2, .ref a3, .int (nI r)] pS_15 (by decide) ((gh_un (gh_kd (by decide))).trans h1) rfl (by simp) rfl rfl dS_tie_37 ?_
      refine gh_move C (61, 0) (4, 0) ?_
      refine gh_aload_n C dS_tie_40 rfl ?_
      refine gh_aload_n C dS_tie_41 rfl ?_
      refine gh_get C fS_19 ((gh_mv_o (gh_kd (by decide)) (gh_kd (by decide))).trans gh_us) rfl dS_tie_42 ?_
      refine gh_iconst C 2 dS_tie_45 (by decide) ?_
      refine gh_aload_n C dS_tie_46 rfl ?_
      refine gh_get C fS_19 ((gh_mv_o (gh_kd (by decide)) (gh_kd (by decide))).trans gh_us) rfl dS_tie_47 ?_
      refine gh_alen C ((gh_mv_o (gh_kd (by decide)) (gh_kd (by decide))).trans ((gh_un (gh_kd (by decide))).trans ((gh_un (gh_kd (by decide))).trans h4))) rfl dS_tie_50 ?_
      refine gh_imul C dS_tie_51 ?_
      refine gh_ti (nI (2 * cap r)) (by rw [show (2 : Int32) = nI 2 from rfl, pk_mul]) ?_
      refine gh_callS C [.ref a2, .int (nI (2 * cap r))] (c_copyOfI l d _ (2 * cap r) ((gh_mv_o (gh_kd (by decide)) (gh_kd (by decide))).trans ((gh_un (gh_kd (by decide))).trans ((gh_un (gh_kd (by decide))).trans h4))) (gh_kd (by decide)) (by omega) (by omega) (fun _ => rfl)) lS_50 wA_copyOf1 sA_copyOf1 rfl rfl (Nat.le_of_ble_eq_true rfl) ⟨Nat.le_of_ble_eq_true rfl, Nat.le_of_ble_eq_true rfl⟩ (Nat.le_of_ble_eq_true rfl) (by dsimp only [rr]; omega) dS_tie_52 (fun v52 g52 h52 => ?_)
      simp only [ext_o (show ∀ j, cap r ≤ j → f2 j = 0 from fun j hj => (ok.2.2.2.2 j (by omega)).2.1), show 2 * cap r = cap (r + 1) by omega] at h52
      obtain ⟨q52, rfl, rfl⟩ := h52
      refine gh_putL C [.ref ao, .int (nI n), .ref q34, .ref q52, .ref a3, .int (nI r)] pS_19 (by decide) ((gh_un (gh_kd (by decide))).trans ((gh_mv_o (gh_kd (by decide)) (gh_kd (by decide))).trans gh_us)) rfl (by simp) rfl rfl dS_tie_55 ?_
      refine gh_move C (61, 0) (5, 0) ?_
      refine gh_aload_n C dS_tie_58 rfl ?_
      refine gh_aload_n C dS_tie_59 rfl ?_
      refine gh_get C fS_22 ((gh_mv_o (gh_kd (by decide)) (gh_kd (by decide))).trans gh_us) rfl dS_tie_60 ?_
      refine gh_iconst C 2 dS_tie_63 (by decide) ?_
      refine gh_aload_n C dS_tie_64 rfl ?_
      refine gh_get C fS_22 ((gh_mv_o (gh_kd (by decide)) (gh_kd (by decide))).trans gh_us) rfl dS_tie_65 ?_
      refine gh_alen C ((gh_mv_o (gh_kd (by decide)) (gh_kd (by decide))).trans ((gh_un (gh_kd (by decide))).trans ((gh_un (gh_kd (by decide))).trans ((gh_mv_o (gh_kd (by decide)) (gh_kd (by decide))).trans ((gh_un (gh_kd (by decide))).trans ((gh_un (gh_kd (by decide))).trans h5)))))) rfl dS_tie_68 ?_
      refine gh_imul C dS_tie_69 ?_
      refine gh_ti (nI (2 * cap r)) (by rw [show (2 : Int32) = nI 2 from rfl, pk_mul]) ?_
      refine gh_callS C [.ref a3, .int (nI (2 * cap r))] (c_copyOfI l d _ (2 * cap r) ((gh_mv_o (gh_kd (by decide)) (gh_kd (by decide))).trans ((gh_un (gh_kd (by decide))).trans ((gh_un (gh_kd (by decide))).trans ((gh_mv_o (gh_kd (by decide)) (gh_kd (by decide))).trans ((gh_un (gh_kd (by decide))).trans ((gh_un (gh_kd (by decide))).trans h5)))))) (gh_kd (by decide)) (by omega) (by omega) (fun _ => rfl)) lS_50 wA_copyOf1 sA_copyOf1 rfl rfl (Nat.le_of_ble_eq_true rfl) ⟨Nat.le_of_ble_eq_true rfl, Nat.le_of_ble_eq_true rfl⟩ (Nat.le_of_ble_eq_true rfl) (by dsimp only [rr]; omega) dS_tie_70 (fun v70 g70 h70 => ?_)
      simp only [ext_o (show ∀ j, cap r ≤ j → f3 j = 0 from fun j hj => (ok.2.2.2.2 j (by omega)).2.2), show 2 * cap r = cap (r + 1) by omega] at h70
      obtain ⟨q70, rfl, rfl⟩ := h70
      refine gh_putL C [.ref ao, .int (nI n), .ref q34, .ref q52, .ref q70, .int (nI r)] pS_22 (by decide) ((gh_un (gh_kd (by decide))).trans ((gh_mv_o (gh_kd (by decide)) (gh_kd (by decide))).trans gh_us)) rfl (by simp) rfl rfl dS_tie_73 ?_
      refine gh_move C (61, 0) (6, 0) ?_
      refine gh_aload_n C dS_tie_76 rfl ?_
      refine gh_get C fS_47 ((gh_mv_o (gh_kd (by decide)) (gh_kd (by decide))).trans gh_us) rfl dS_tie_77 ?_
      refine gh_aload_n C dS_tie_80 rfl ?_
      refine gh_get C fS_22 ((gh_mv_o (gh_kd (by decide)) (gh_kd (by decide))).trans gh_us) rfl dS_tie_81 ?_
      refine gh_alen C (gh_mv_k.trans ((gh_un (gh_kd (by decide))).trans gh_us)) rfl dS_tie_84 ?_
      refine gh_icmp_lt C 89 dS_tie_85 (by decide) (fun c85 => ?_) (fun c85 => ?_)
      ·
        skip
        refine gh_aload_n C dS_tie_89 rfl ?_
        refine gh_get C fS_15 ((gh_mv_o (gh_kd (by decide)) (gh_kd (by decide))).trans gh_us) rfl dS_tie_90 ?_
        refine gh_aload_n C dS_tie_93 rfl ?_
        refine gh_get C fS_47 ((gh_mv_o (gh_kd (by decide)) (gh_kd (by decide))).trans gh_us) rfl dS_tie_94 ?_
        refine gh_iload_n C dS_tie_97 rfl ?_
        refine gh_iastN C (r) ((gh_mv_o (gh_kd (by decide)) (gh_kd (by decide))).trans ((gh_un (gh_kd (by decide))).trans ((gh_un (gh_kd (by decide))).trans ((gh_mv_o (gh_kd (by decide)) (gh_kd (by decide))).trans ((gh_un (gh_kd (by decide))).trans ((gh_un (gh_kd (by decide))).trans (gh_mv_k.trans ((gh_un (gh_kd (by decide))).trans gh_us)))))))) rfl rfl ⟨by first | exact hlt | omega, by omega⟩ dS_tie_98 ?_
        refine gh_aload_n C dS_tie_99 rfl ?_
        refine gh_get C fS_19 ((gh_un (gh_kd (by decide))).trans ((gh_mv_o (gh_kd (by decide)) (gh_kd (by decide))).trans gh_us)) rfl dS_tie_100 ?_
        refine gh_aload_n C dS_tie_103 rfl ?_
        refine gh_get C fS_47 ((gh_un (gh_kd (by decide))).trans ((gh_mv_o (gh_kd (by decide)) (gh_kd (by decide))).trans gh_us)) rfl dS_tie_104 ?_
        refine gh_iload_n C dS_tie_107 rfl ?_
        refine gh_iastN C (r) ((gh_un (gh_kd (by decide))).trans ((gh_mv_o (gh_kd (by decide)) (gh_kd (by decide))).trans ((gh_un (gh_kd (by decide))).trans ((gh_un (gh_kd (by decide))).trans (gh_mv_k.trans ((gh_un (gh_kd (by decide))).trans gh_us)))))) rfl rfl ⟨by first | exact hlt | omega, by omega⟩ dS_tie_108 ?_
        refine gh_aload_n C dS_tie_109 rfl ?_
        refine gh_get C fS_22 ((gh_un (gh_kd (by decide))).trans ((gh_un (gh_kd (by decide))).trans ((gh_mv_o (gh_kd (by decide)) (gh_kd (by decide))).trans gh_us))) rfl dS_tie_110 ?_
        refine gh_aload_n C dS_tie_113 rfl ?_
        refine gh_get C fS_47 ((gh_un (gh_kd (by decide))).trans ((gh_un (gh_kd (by decide))).trans ((gh_mv_o (gh_kd (by decide)) (gh_kd (by decide))).trans gh_us))) rfl dS_tie_114 ?_
        refine gh_iload_n C dS_tie_117 rfl ?_
        refine gh_iastN C (r) ((gh_un (gh_kd (by decide))).trans ((gh_un (gh_kd (by decide))).trans (gh_mv_k.trans ((gh_un (gh_kd (by decide))).trans gh_us)))) rfl rfl ⟨by first | exact hlt | omega, by omega⟩ dS_tie_118 ?_
        refine gh_aload_n C dS_tie_119 rfl ?_
        refine gh_dup C dS_tie_120 rfl ?_
        refine gh_get C fS_47 ((gh_un (gh_kd (by decide))).trans ((gh_un (gh_kd (by decide))).trans ((gh_un (gh_kd (by decide))).trans ((gh_mv_o (gh_kd (by decide)) (gh_kd (by decide))).trans gh_us)))) rfl dS_tie_121 ?_
        refine gh_iconst C 1 dS_tie_124 (by decide) ?_
        refine gh_iadd C dS_tie_125 ?_
        refine gh_ti (nI (r + 1)) (nI_1 r) ?_
        refine gh_putL C [.ref ao, .int (nI n), .ref q34, .ref q52, .ref q70, .int (nI (r + 1))] pS_47 (by decide) ((gh_un (gh_kd (by decide))).trans ((gh_un (gh_kd (by decide))).trans ((gh_un (gh_kd (by decide))).trans ((gh_mv_o (gh_kd (by decide)) (gh_kd (by decide))).trans gh_us)))) rfl (by simp) rfl rfl dS_tie_126 ?_
        refine gh_vret C hQ rfl dS_tie_129 ?_
        exact ⟨rfl, ⟨ao, q34, q52, q70, gh_us, ((gh_un (gh_kd (by decide))).trans ((gh_un (gh_kd (by decide))).trans ((gh_un (gh_kd (by decide))).trans ((gh_un (gh_kd (by decide))).trans ((gh_mv_o (gh_kd (by decide)) (gh_kd (by decide))).trans ((gh_un (gh_kd (by decide))).trans ((gh_un (gh_kd (by decide))).trans ((gh_mv_o (gh_kd (by decide)) (gh_kd (by decide))).trans ((gh_un (gh_kd (by decide))).trans ((gh_un (gh_kd (by decide))).trans ((gh_mv_o (gh_kd (by decide)) (gh_kd (by decide))).trans ((gh_un (gh_kd (by decide))).trans ((gh_un (gh_kd (by decide))).trans h2))))))))))))), ((gh_un (gh_kd (by decide))).trans ((gh_un (gh_kd (by decide))).trans ((gh_un (gh_kd (by decide))).trans gh_us))), ((gh_un (gh_kd (by decide))).trans ((gh_un (gh_kd (by decide))).trans gh_us)), ((gh_un (gh_kd (by decide))).trans gh_us)⟩, (((((((((((((fr.rf.u rfl).u rfl).mv rfl rfl).u rfl).u rfl).mv rfl rfl).u rfl).u rfl).mv rfl rfl).u rfl).u rfl).u rfl).u rfl)⟩
      · first | exact absurd (nI_lt hlt (by omega)) c85 | exact absurd (nI_lt (show r < cap (r + 1) by omega) (by omega)) c85
theorem okS.fresh {n r : Nat} {o f1 f2 f3 : Nat → Int32} (h : okS n r o f1 f2 f3) (hn : n < 4096) : okS (n + 1) r o f1 f2 f3 := ⟨hn, h.2.1, h.2.2.1, fun j hj => h.2.2.2.1 j (by omega), h.2.2.2.2⟩
theorem okS.tie {n r : Nat} {o f1 f2 f3 : Nat → Int32} (h : okS n r o f1 f2 f3) (hr : r < 4096) (x y w : Int32) : okS n (r + 1) o (upd f1 r x) (upd f2 r y) (upd f3 r w) := ⟨h.1, hr, h.2.2.1, h.2.2.2.1, fun j hj => by
  have := h.2.2.2.2 j (by omega)
  simp [upd, show j ≠ r by omega, this]⟩
set_option maxRecDepth 100000 in
set_option maxHeartbeats 4000000 in
theorem c_deriveOfTwo (l : Launch) (d : gh_D) (g : gh_H) {a n r : Nat} {o f1 f2 f3 : Nat → Int32} (hp : pS g a n r o f1 f2 f3) (ok : okS n r o f1 f2 f3) (hn : n < 4096) (hr : r < 4096) (x y : Int32) : gh_C l d mS_deriveOfTwo (rr 4 4 ((2 * cap (n + 1) - 2 * cap n) + (6 * cap (r + 1) - 6 * cap r))) [.ref a, .int x, .int y] g (fun v g1 => v = some (.int (nI n)) ∧ pS g1 a (n + 1) (r + 1) o (upd f1 r x) (upd f2 r y) (upd f3 r (nI n)) ∧ fr kS g g1) := by
  have hp0 := hp
  obtain ⟨ao, a1, a2, a3, h1, h2, h3, h4, h5⟩ := hp
  refine gh_of [some (.ref a), some (.int x), some (.int y), none] (by decide) rfl (Nat.le_of_ble_eq_true rfl) (by simp [Value.category]) (fun z C hQ => ?_)
  show gh_W l d z 0 [some (.ref a), some (.int x), some (.int y), none] [] g 4 ((2 * cap (n + 1) - 2 * cap n) + (6 * cap (r + 1) - 6 * cap r))
  refine gh_aload_n C dS_deriveOfTwo_0 rfl ?_
  refine gh_callV C [] (c_fresh l d g hp0 ok hn) lS_39 wS_fresh vS_fresh h1 rfl rfl rfl (Nat.le_of_ble_eq_true rfl) ⟨Nat.le_of_ble_eq_true rfl, Nat.le_of_ble_eq_true rfl⟩ (Nat.le_of_ble_eq_true rfl) (by show 2 * cap (n + 1) - 2 * cap n ≤ _; omega) dS_deriveOfTwo_1 (fun v1 g1 h1x => ?_)
  obtain ⟨rfl, hp1, hf1⟩ := h1x
  obtain ⟨bo, b1, b2, b3, k1, k2, k3, k4, k5⟩ := id hp1
  refine gh_istore_n C [some (.ref a), some (.int x), some (.int y), some (.int (nI n))] dS_deriveOfTwo_4 rfl (Nat.le_of_ble_eq_true rfl) ?_
  refine gh_aload_n C dS_deriveOfTwo_5 rfl ?_
  refine gh_iload_n C dS_deriveOfTwo_6 rfl ?_
  refine gh_iload_n C dS_deriveOfTwo_7 rfl ?_
  refine gh_iload_n C dS_deriveOfTwo_8 rfl ?_
  refine gh_callV C [.int x, .int y, .int (nI n)] (c_tie l d _ hp1 (ok.fresh hn) hr x y (nI n)) lS_43 wS_tie vS_tie k1 rfl rfl rfl (Nat.le_of_ble_eq_true rfl) ⟨Nat.le_of_ble_eq_true rfl, Nat.le_of_ble_eq_true rfl⟩ (Nat.le_of_ble_eq_true rfl) (by show 6 * cap (r + 1) - 6 * cap r ≤ (2 * cap (n + 1) - 2 * cap n + (6 * cap (r + 1) - 6 * cap r)) - (2 * cap (n + 1) - 2 * cap n); omega) dS_deriveOfTwo_9 (fun v9 g9 h9 => ?_)
  obtain ⟨rfl, hp2, hf2⟩ := h9
  refine gh_iload_n C dS_deriveOfTwo_12 rfl ?_
  refine gh_iret C hQ rfl dS_deriveOfTwo_13 ?_
  exact ⟨rfl, hp2, hf1.trans hf2⟩
set_option maxRecDepth 100000 in
set_option maxHeartbeats 4000000 in
theorem c_derive (l : Launch) (d : gh_D) (g : gh_H) {a n r : Nat} {o f1 f2 f3 : Nat → Int32} (hp : pS g a n r o f1 f2 f3) (ok : okS n r o f1 f2 f3) (hn : n < 4096) (hr : r < 4096) (x : Int32) : gh_C l d mS_derive (rr 5 4 ((2 * cap (n + 1) - 2 * cap n) + (6 * cap (r + 1) - 6 * cap r))) [.ref a, .int x] g (fun v g1 => v = some (.int (nI n)) ∧ pS g1 a (n + 1) (r + 1) o (upd f1 r x) (upd f2 r (-1)) (upd f3 r (nI n)) ∧ fr kS g g1) := by
  obtain ⟨ao, a1, a2, a3, h1, h2, h3, h4, h5⟩ := id hp
  refine gh_of [some (.ref a), some (.int x)] (by decide) rfl (Nat.le_of_ble_eq_true rfl) (by simp [Value.category]) (fun z C hQ => ?_)
  show gh_W l d z 0 [some (.ref a), some (.int x)] [] g 4 ((2 * cap (n + 1) - 2 * cap n) + (6 * cap (r + 1) - 6 * cap r))
  refine gh_aload_n C dS_derive_0 rfl ?_
  refine gh_iload_n C dS_derive_1 rfl ?_
  refine gh_iconst C (-1) dS_derive_2 (by decide) ?_
  refine gh_callV C [.int x, .int (-1)] (c_deriveOfTwo l d g hp ok hn hr x (-1)) lS_35 wS_deriveOfTwo vS_deriveOfTwo h1 rfl rfl rfl (Nat.le_of_ble_eq_true rfl) ⟨Nat.le_of_ble_eq_true rfl, Nat.le_of_ble_eq_true rfl⟩ (Nat.le_of_ble_eq_true rfl) (Nat.le_refl _) dS_derive_3 (fun v3 g3 h3x => ?_)
  obtain ⟨rfl, hp1, hf1⟩ := h3x
  refine gh_iret C hQ rfl dS_derive_6 ?_
  exact ⟨rfl, hp1, hf1⟩
set_option maxRecDepth 100000 in
set_option maxHeartbeats 4000000 in
theorem c_ruleCount (l : Launch) (d : gh_D) (g : gh_H) {a n r : Nat} {o f1 f2 f3 : Nat → Int32} (hp : pS g a n r o f1 f2 f3) (ok : okS n r o f1 f2 f3) : gh_C l d mS_ruleCount (rr 0 0 0) [.ref a] g (fun v g1 => v = some (.int (nI r)) ∧ g1 = g) := by
  obtain ⟨ao, a1, a2, a3, h1, h2, h3, h4, h5⟩ := hp
  refine gh_of [some (.ref a)] (by decide) rfl (Nat.le_of_ble_eq_true rfl) (by simp [Value.category]) (fun z C hQ => ?_)
  show gh_W l d z 0 [some (.ref a)] [] g 0 0
  refine gh_aload_n C dS_ruleCount_0 rfl ?_
  refine gh_get C fS_47 h1 rfl dS_ruleCount_1 ?_
  refine gh_iret C hQ rfl dS_ruleCount_4 ?_
  exact ⟨rfl, rfl⟩
def inn (n : Nat) (x : Int32) : Bool := decide (0 ≤ x) && decide (x < nI n)
theorem inn_of {n : Nat} {x : Int32} (hn : n < 2 ^ 31) (h : inn n x = true) : ∃ j : Nat, j < n ∧ x = nI j := by
  simp only [inn, Bool.and_eq_true, decide_eq_true_eq] at h
  rcases pk_ix x (n := n) hn with h2 | h2 | h2
  · exact absurd h.1 (Int32.not_le.mpr h2)
  · exact absurd h.2 (Int32.not_lt.mpr h2)
  · exact h2
theorem inn_1 {n : Nat} {x : Int32} (h : x < 0) : ¬ inn n x = true := by simp only [inn, Bool.and_eq_true, decide_eq_true_eq]; exact fun q => absurd q.1 (Int32.not_le.mpr h)
theorem inn_2 {n : Nat} {x : Int32} (h : nI n ≤ x) : ¬ inn n x = true := by simp only [inn, Bool.and_eq_true, decide_eq_true_eq]; exact fun q => absurd q.2 (Int32.not_lt.mpr h)
theorem inn_3 {n : Nat} {x : Int32} (h : ¬ x < 0) (h2 : ¬ nI n ≤ x) : inn n x = true := by simp only [inn, Bool.and_eq_true, decide_eq_true_eq]; exact ⟨Int32.not_lt.mp h, Int32.not_le.mp h2⟩
def lrn (n : Nat) (o : Nat → Int32) (x : Int32) : Nat → Int32 := if inn n x = true then upd o x.toNatClampNeg 1 else o
def isO (n : Nat) (o : Nat → Int32) (x : Int32) : Bool := inn n x && decide (o x.toNatClampNeg ≠ 0)
theorem okS_lrn {n r : Nat} {o f1 f2 f3 : Nat → Int32} (h : okS n r o f1 f2 f3) (x : Int32) : okS n r (lrn n o x) f1 f2 f3 := by
  by_cases hx : inn n x = true
  · obtain ⟨j, hj, rfl⟩ := inn_of (by have := h.1; omega) hx
    have hc : (nI j).toNatClampNeg = j := nI_clamp (by have := h.1; omega)
    refine ⟨h.1, h.2.1, fun i => ?_, fun i hi => ?_, h.2.2.2.2⟩
    · simp only [lrn, if_pos hx, hc, upd]
      split
      · exact Or.inr rfl
      · exact h.2.2.1 i
    · simp only [lrn, if_pos hx, hc, upd]
      rw [if_neg (by omega)]
      exact h.2.2.2.1 i hi
  · simp only [lrn, if_neg hx]; exact h
set_option maxRecDepth 100000 in
set_option maxHeartbeats 4000000 in
theorem c_learn (l : Launch) (d : gh_D) (g : gh_H) {a n r : Nat} {o f1 f2 f3 : Nat → Int32} (hp : pS g a n r o f1 f2 f3) (ok : okS n r o f1 f2 f3) (x : Int32) : gh_C l d mS_learn (rr 0 0 0) [.ref a, .int x] g (fun v g1 => v = none ∧ pS g1 a n r (lrn n o x) f1 f2 f3 ∧ fr kS g g1) := by
  obtain ⟨ao, a1, a2, a3, h1, h2, h3, h4, h5⟩ := hp
  have h64 := cap_64 n
  have h65 := cap_64 r
  have hle := cap_le n
  have hge := cap_ge ok.1
  have hn4 := ok.1
  have hr4 := ok.2.1
  refine gh_of [some (.ref a), some (.int x)] (by decide) rfl (Nat.le_of_ble_eq_true rfl) (by simp [Value.category]) (fun z C hQ => ?_)
  show gh_W l d z 0 [some (.ref a), some (.int x)] [] g 0 0
  refine gh_iload_n C dS_learn_0 rfl ?_
  refine gh_if_lt C 19 dS_learn_1 (by decide) (fun c1 => ?_) (fun c1 => ?_)
  ·
    have hx := inn_1 (n := n) c1
    refine gh_vret C hQ rfl dS_learn_19 ?_
    exact ⟨rfl, by first | (rw [lrn, if_neg hx]; exact ⟨ao, a1, a2, a3, h1, h2, h3, h4, h5⟩) | (rw [lrn, if_pos hx, nI_clamp (show j < 2 ^ 31 by omega)]; exact ⟨ao, a1, a2, a3, h1, h2, h3, h4, h5⟩), fr.rf⟩
  ·
    refine gh_iload_n C dS_learn_4 rfl ?_
    refine gh_aload_n C dS_learn_5 rfl ?_
    refine gh_get C fS_25 h1 rfl dS_learn_6 ?_
    refine gh_icmp_ge C 19 dS_learn_9 (by decide) (fun c9 => ?_) (fun c9 => ?_)
    ·
      have hx := inn_2 (n := n) c9
      refine gh_vret C hQ rfl dS_learn_19 ?_
      exact ⟨rfl, by first | (rw [lrn, if_neg hx]; exact ⟨ao, a1, a2, a3, h1, h2, h3, h4, h5⟩) | (rw [lrn, if_pos hx, nI_clamp (show j < 2 ^ 31 by omega)]; exact ⟨ao, a1, a2, a3, h1, h2, h3, h4, h5⟩), fr.rf⟩
    ·
      have hx := inn_3 c1 c9
      obtain ⟨j, hj, rfl⟩ := inn_of (by omega) hx
      refine gh_aload_n C dS_learn_12 rfl ?_
      refine gh_get C fS_11 h1 rfl dS_learn_13 ?_
      refine gh_iload_n C dS_learn_16 rfl ?_
      refine gh_iconst C 1 dS_learn_17 (by decide) ?_
      refine gh_bastN C (j) h2 rfl rfl ⟨by omega, by omega⟩ dS_learn_18 ?_
      refine gh_vret C hQ rfl dS_learn_19 ?_
      exact ⟨rfl, by first | (rw [lrn, if_neg hx]; exact ⟨ao, a1, a2, a3, ((gh_un (gh_kd (by decide))).trans h1), gh_us, ((gh_un (gh_kd (by decide))).trans h3), ((gh_un (gh_kd (by decide))).trans h4), ((gh_un (gh_kd (by decide))).trans h5)⟩) | (rw [lrn, if_pos hx, nI_clamp (show j < 2 ^ 31 by omega)]; exact ⟨ao, a1, a2, a3, ((gh_un (gh_kd (by decide))).trans h1), gh_us, ((gh_un (gh_kd (by decide))).trans h3), ((gh_un (gh_kd (by decide))).trans h4), ((gh_un (gh_kd (by decide))).trans h5)⟩), (fr.rf.u rfl)⟩
set_option maxRecDepth 100000 in
set_option maxHeartbeats 4000000 in
theorem c_isOut (l : Launch) (d : gh_D) (g : gh_H) {a n r : Nat} {o f1 f2 f3 : Nat → Int32} (hp : pS g a n r o f1 f2 f3) (ok : okS n r o f1 f2 f3) (x : Int32) : gh_C l d mS_isOut (rr 0 0 0) [.ref a, .int x] g (fun v g1 => v = some (.int (if isO n o x = true then 1 else 0)) ∧ g1 = g) := by
  obtain ⟨ao, a1, a2, a3, h1, h2, h3, h4, h5⟩ := hp
  have h64 := cap_64 n
  have h65 := cap_64 r
  have hle := cap_le n
  have hge := cap_ge ok.1
  have hn4 := ok.1
  have hr4 := ok.2.1
  refine gh_of [some (.ref a), some (.int x)] (by decide) rfl (Nat.le_of_ble_eq_true rfl) (by simp [Value.category]) (fun z C hQ => ?_)
  show gh_W l d z 0 [some (.ref a), some (.int x)] [] g 0 0
  refine gh_iload_n C dS_isOut_0 rfl ?_
  refine gh_if_lt C 25 dS_isOut_1 (by decide) (fun c1 => ?_) (fun c1 => ?_)
  ·
    have hx := inn_1 (n := n) c1
    have hz : ¬ isO n o x = true := by simp [isO, hx]
    refine gh_iconst C 0 dS_isOut_25 (by decide) ?_
    refine gh_zret C hQ rfl (by simp) dS_isOut_26 ?_
    first | exact ⟨by rw [if_pos hz], rfl⟩ | exact ⟨by rw [if_neg hz], rfl⟩
  ·
    refine gh_iload_n C dS_isOut_4 rfl ?_
    refine gh_aload_n C dS_isOut_5 rfl ?_
    refine gh_get C fS_25 h1 rfl dS_isOut_6 ?_
    refine gh_icmp_ge C 25 dS_isOut_9 (by decide) (fun c9 => ?_) (fun c9 => ?_)
    ·
      have hx := inn_2 (n := n) c9
      have hz : ¬ isO n o x = true := by simp [isO, hx]
      refine gh_iconst C 0 dS_isOut_25 (by decide) ?_
      refine gh_zret C hQ rfl (by simp) dS_isOut_26 ?_
      first | exact ⟨by rw [if_pos hz], rfl⟩ | exact ⟨by rw [if_neg hz], rfl⟩
    ·
      have hx := inn_3 c1 c9
      obtain ⟨j, hj, rfl⟩ := inn_of (by omega) hx
      have hcl := nI_clamp (show j < 2 ^ 31 by omega)
      refine gh_aload_n C dS_isOut_12 rfl ?_
      refine gh_get C fS_11 h1 rfl dS_isOut_13 ?_
      refine gh_iload_n C dS_isOut_16 rfl ?_
      refine gh_baldN C (j) h2 rfl rfl ⟨by omega, by omega⟩ dS_isOut_17 ?_
      refine gh_if_eq C 25 dS_isOut_18 (by decide) (fun c18 => ?_) (fun c18 => ?_)
      ·
        have hz : ¬ isO n o (nI j) = true := by rw [isO, hcl]; simp [c18]
        refine gh_iconst C 0 dS_isOut_25 (by decide) ?_
        refine gh_zret C hQ rfl (by simp) dS_isOut_26 ?_
        first | exact ⟨by rw [if_pos hz], rfl⟩ | exact ⟨by rw [if_neg hz], rfl⟩
      ·
        have hz : isO n o (nI j) = true := by rw [isO, hcl]; simp [c18, hx]
        refine gh_iconst C 1 dS_isOut_21 (by decide) ?_
        refine gh_goto C 26 dS_isOut_22 (by decide) ?_
        refine gh_zret C hQ rfl (by simp) dS_isOut_26 ?_
        first | exact ⟨by rw [if_pos hz], rfl⟩ | exact ⟨by rw [if_neg hz], rfl⟩
def spS (n : Nat) (f1 f2 f3 o : Nat → Int32) (i : Nat) : Nat → Int32 := if isO n o (f1 i) = true ∧ (f2 i = -1 ∨ isO n o (f2 i) = true) then lrn n o (f3 i) else o
def spr (n : Nat) (f1 f2 f3 : Nat → Int32) : Nat → Nat → (Nat → Int32) → Nat → Int32
  | 0, _, o => o
  | c + 1, i, o => spr n f1 f2 f3 c (i + 1) (spS n f1 f2 f3 o i)
theorem okS_sp {n r : Nat} {o f1 f2 f3 : Nat → Int32} (h : okS n r o f1 f2 f3) (i : Nat) : okS n r (spS n f1 f2 f3 o i) f1 f2 f3 := by
  unfold spS
  split
  · exact okS_lrn h _
  · exact h
theorem okS_spr {n r : Nat} {f1 f2 f3 : Nat → Int32} : ∀ (c i : Nat) (o : Nat → Int32), okS n r o f1 f2 f3 → okS n r (spr n f1 f2 f3 c i o) f1 f2 f3
  | 0, _, _, h => h
  | c + 1, i, _, h => okS_spr c (i + 1) _ (okS_sp h i)
theorem xS_max : Cond.methodLink "RatchetGroup$Secrets" 53 Lib.Math.max.name ∈ gh_T := gh_in 708 (by decide +kernel) rfl
set_option maxRecDepth 100000 in
set_option maxHeartbeats 4000000 in
theorem c_spread (l : Launch) (d : gh_D) (g : gh_H) {a n r : Nat} {o f1 f2 f3 : Nat → Int32} (hp : pS g a n r o f1 f2 f3) (ok : okS n r o f1 f2 f3) (k : Nat) (hk : k ≤ r) : gh_C l d mS_spread (rr 1 0 0) [.ref a, .int (nI k)] g (fun v g1 => v = none ∧ pS g1 a n r (spr n f1 f2 f3 (r - k) k o) f1 f2 f3 ∧ fr kS g g1) := by
  refine gh_of [some (.ref a), some (.int (nI k)), none] (by decide) rfl (Nat.le_of_ble_eq_true rfl) (by simp [Value.category]) (fun z C hQ => ?_)
  show gh_W l d z 0 [some (.ref a), some (.int (nI k)), none] [] g 0 0
  have hr4 := ok.2.1
  have loop : ∀ (c i : Nat) (o1 : Nat → Int32) (g1 : gh_H), i + c = r → okS n r o1 f1 f2 f3 → pS g1 a n r o1 f1 f2 f3 → fr kS g g1 → (spr n f1 f2 f3 c i o1 = spr n f1 f2 f3 (r - k) k o) → gh_W l d z 6 [some (.ref a), some (.int (nI k)), some (.int (nI i))] [] g1 0 0 := by
    intro c
    induction c with
    | zero =>
      intro i o1 g1 hi ok1 hp1 hf1 he
      have hi : i = r := by omega
      subst hi
      obtain ⟨ao, a1, a2, a3, h1, h2, h3, h4, h5⟩ := id hp1
      refine gh_iload_n C dS_spread_6 rfl ?_
      refine gh_aload_n C dS_spread_7 rfl ?_
      refine gh_get C fS_47 h1 rfl dS_spread_8 ?_
      refine gh_icmp_ge C 66 dS_spread_11 (by decide) (fun c11 => ?_) (fun c11 => ?_)
      ·
        refine gh_vret C hQ rfl dS_spread_66 ?_
        exact ⟨rfl, by rw [← he]; exact hp1, hf1⟩
      · exact absurd (nI_le (Nat.le_refl i) (by omega)) c11
    | succ c ih =>
      intro i o1 g1 hi ok1 hp1 hf1 he
      have hlt : i < r := by omega
      have hge2 := cap_ge ok.2.1
      have hle2 := cap_le r
      obtain ⟨ao, a1, a2, a3, h1, h2, h3, h4, h5⟩ := id hp1
      refine gh_iload_n C dS_spread_6 rfl ?_
      refine gh_aload_n C dS_spread_7 rfl ?_
      refine gh_get C fS_47 h1 rfl dS_spread_8 ?_
      refine gh_icmp_ge C 66 dS_spread_11 (by decide) (fun c11 => ?_) (fun c11 => ?_)
      · exact absurd c11 (nI_ge hlt (by omega))
      ·
        refine gh_aload_n C dS_spread_14 rfl ?_
        refine gh_aload_n C dS_spread_15 rfl ?_
        refine gh_get C fS_15 h1 rfl dS_spread_16 ?_
        refine gh_iload_n C dS_spread_19 rfl ?_
        refine gh_ialdN C (i) h3 rfl rfl ⟨by omega, by omega⟩ dS_spread_20 ?_
        refine gh_callV C [.int (f1 i)] (c_isOut l d _ hp1 ok1 (f1 i)) lS_58 wS_isOut vS_isOut h1 rfl rfl rfl (Nat.le_of_ble_eq_true rfl) ⟨Nat.le_of_ble_eq_true rfl, Nat.le_of_ble_eq_true rfl⟩ (Nat.le_of_ble_eq_true rfl) (Nat.le_of_ble_eq_true rfl) dS_spread_21 (fun v21 g21 h21 => ?_)
        obtain ⟨rfl, rfl⟩ := h21
        refine gh_if_eq C 60 dS_spread_24 (by decide) (fun c24 => ?_) (fun c24 => ?_)
        ·
          have e24 : ¬ isO n o1 (f1 i) = true := fun h => by rw [if_pos h] at c24; exact absurd c24 (by decide)
          have hc : ¬ (isO n o1 (f1 i) = true ∧ (f2 i = -1 ∨ isO n o1 (f2 i) = true)) := fun h => e24 h.1
          refine gh_iinc C (nI (i + 1)) [some (.ref a), some (.int (nI k)), some (.int (nI (i + 1)))] dS_spread_60 rfl (gh_inc i) rfl ?_
          refine gh_goto C 6 dS_spread_63 (by decide) ?_
          exact ih (i + 1) _ _ (by omega) ok1 hp1 hf1 (by rw [← he]; simp only [spr, spS, if_neg hc])
        ·
          have e24 : isO n o1 (f1 i) = true := by
            by_cases h : isO n o1 (f1 i) = true
            · exact h
            · rw [if_neg h] at c24; exact absurd rfl c24
          refine gh_aload_n C dS_spread_27 rfl ?_
          refine gh_get C fS_19 h1 rfl dS_spread_28 ?_
          refine gh_iload_n C dS_spread_31 rfl ?_
          refine gh_ialdN C (i) h4 rfl rfl ⟨by omega, by omega⟩ dS_spread_32 ?_
          refine gh_iconst C (-1) dS_spread_33 (by decide) ?_
          refine gh_icmp_eq C 50 dS_spread_34 (by decide) (fun c34 => ?_) (fun c34 => ?_)
          ·
            have hc : isO n o1 (f1 i) = true ∧ (f2 i = -1 ∨ isO n o1 (f2 i) = true) := ⟨e24, Or.inl c34⟩
            refine gh_aload_n C dS_spread_50 rfl ?_
            refine gh_aload_n C dS_spread_51 rfl ?_
            refine gh_get C fS_22 h1 rfl dS_spread_52 ?_
            refine gh_iload_n C dS_spread_55 rfl ?_
            refine gh_ialdN C (i) h5 rfl rfl ⟨by omega, by omega⟩ dS_spread_56 ?_
            refine gh_callV C [.int (f3 i)] (c_learn l d _ hp1 ok1 (f3 i)) lS_62 wS_learn vS_learn h1 rfl rfl rfl (Nat.le_of_ble_eq_true rfl) ⟨Nat.le_of_ble_eq_true rfl, Nat.le_of_ble_eq_true rfl⟩ (Nat.le_of_ble_eq_true rfl) (Nat.le_of_ble_eq_true rfl) dS_spread_57 (fun v57 g57 h57 => ?_)
            obtain ⟨rfl, hp2, hf2⟩ := h57
            refine gh_iinc C (nI (i + 1)) [some (.ref a), some (.int (nI k)), some (.int (nI (i + 1)))] dS_spread_60 rfl (gh_inc i) rfl ?_
            refine gh_goto C 6 dS_spread_63 (by decide) ?_
            exact ih (i + 1) _ _ (by omega) (okS_lrn ok1 (f3 i)) hp2 (hf1.trans hf2) (by rw [← he]; simp only [spr, spS, if_pos hc])
          ·
            refine gh_aload_n C dS_spread_37 rfl ?_
            refine gh_aload_n C dS_spread_38 rfl ?_
            refine gh_get C fS_19 h1 rfl dS_spread_39 ?_
            refine gh_iload_n C dS_spread_42 rfl ?_
            refine gh_ialdN C (i) h4 rfl rfl ⟨by omega, by omega⟩ dS_spread_43 ?_
            refine gh_callV C [.int (f2 i)] (c_isOut l d _ hp1 ok1 (f2 i)) lS_58 wS_isOut vS_isOut h1 rfl rfl rfl (Nat.le_of_ble_eq_true rfl) ⟨Nat.le_of_ble_eq_true rfl, Nat.le_of_ble_eq_true rfl⟩ (Nat.le_of_ble_eq_true rfl) (Nat.le_of_ble_eq_true rfl) dS_spread_44 (fun v44 g44 h44 => ?_)
            obtain ⟨rfl, rfl⟩ := h44
            refine gh_if_eq C 60 dS_spread_47 (by decide) (fun c47 => ?_) (fun c47 => ?_)
            ·
              have e47 : ¬ isO n o1 (f2 i) = true := fun h => by rw [if_pos h] at c47; exact absurd c47 (by decide)
              have hc : ¬ (isO n o1 (f1 i) = true ∧ (f2 i = -1 ∨ isO n o1 (f2 i) = true)) := fun h => h.2.elim c34 e47
              refine gh_iinc C (nI (i + 1)) [some (.ref a), some (.int (nI k)), some (.int (nI (i + 1)))] dS_spread_60 rfl (gh_inc i) rfl ?_
              refine gh_goto C 6 dS_spread_63 (by decide) ?_
              exact ih (i + 1) _ _ (by omega) ok1 hp1 hf1 (by rw [← he]; simp only [spr, spS, if_neg hc])
            ·
              have e47 : isO n o1 (f2 i) = true := by
                by_cases h : isO n o1 (f2 i) = true
                · exact h
                · rw [if_neg h] at c47; exact absurd rfl c47
              have hc : isO n o1 (f1 i) = true ∧ (f2 i = -1 ∨ isO n o1 (f2 i) = true) := ⟨e24, Or.inr e47⟩
              refine gh_aload_n C dS_spread_50 rfl ?_
              refine gh_aload_n C dS_spread_51 rfl ?_
              refine gh_get C fS_22 h1 rfl dS_spread_52 ?_
              refine gh_iload_n C dS_spread_55 rfl ?_
              refine gh_ialdN C (i) h5 rfl rfl ⟨by omega, by omega⟩ dS_spread_56 ?_
              refine gh_callV C [.int (f3 i)] (c_learn l d _ hp1 ok1 (f3 i)) lS_62 wS_learn vS_learn h1 rfl rfl rfl (Nat.le_of_ble_eq_true rfl) ⟨Nat.le_of_ble_eq_true rfl, Nat.le_of_ble_eq_true rfl⟩ (Nat.le_of_ble_eq_true rfl) (Nat.le_of_ble_eq_true rfl) dS_spread_57 (fun v57 g57 h57 => ?_)
              obtain ⟨rfl, hp2, hf2⟩ := h57
              refine gh_iinc C (nI (i + 1)) [some (.ref a), some (.int (nI k)), some (.int (nI (i + 1)))] dS_spread_60 rfl (gh_inc i) rfl ?_
              refine gh_goto C 6 dS_spread_63 (by decide) ?_
              exact ih (i + 1) _ _ (by omega) (okS_lrn ok1 (f3 i)) hp2 (hf1.trans hf2) (by rw [← he]; simp only [spr, spS, if_pos hc])
  refine gh_iload_n C dS_spread_0 rfl ?_
  refine gh_iconst C 0 dS_spread_1 (by decide) ?_
  refine gh_max C k 0 (Nat.zero_le k) (by omega) xS_max ⟨Nat.le_of_ble_eq_true rfl, Nat.le_of_ble_eq_true rfl⟩ (Nat.le_of_ble_eq_true rfl) dS_spread_2 ?_
  refine gh_istore_n C [some (.ref a), some (.int (nI k)), some (.int (nI k))] dS_spread_5 rfl (Nat.le_of_ble_eq_true rfl) ?_
  exact loop (r - k) k o g (by omega) ok hp fr.rf rfl
