/-! SECRETS: n are made, o says which are out; r rules f1, f2, f3 -/
def cap (n : Nat) : Nat := if n ≤ 64 then 64 else if n ≤ 128 then 128 else if n ≤ 256 then 256 else if n ≤ 512 then 512 else if n ≤ 1024 then 1024 else if n ≤ 2048 then 2048 else 4096
theorem cap_ge {n : Nat} (h : n ≤ 4096) : n ≤ cap n := by unfold cap; (repeat' split) <;> omega
theorem cap_le (n : Nat) : cap n ≤ 4096 := by unfold cap; (repeat' split) <;> omega
theorem cap_64 (n : Nat) : 64 ≤ cap n := by unfold cap; (repeat' split) <;> omega
theorem cap_mono {n m : Nat} (h : n ≤ m) : cap n ≤ cap m := by unfold cap; (repeat' split) <;> omega
theorem cap_keep {n : Nat} (h : n < cap n) : cap (n + 1) = cap n := by unfold cap at h ⊢; (repeat' split at h) <;> ((repeat' split) <;> omega)
theorem cap_grow {n : Nat} (h : ¬ n < cap n) (h2 : n < 4096) : cap n = n ∧ cap (n + 1) = 2 * n := by
  unfold cap at h ⊢
  (repeat' split at h) <;> (first | omega | (refine And.intro ?_ ?_ <;> ((repeat' split) <;> omega)))
def pS (g : gh_H) (a n r : Nat) (o f1 f2 f3 : Nat → Int32) : Prop := ∃ ao a1 a2 a3 : Nat, g (2, 0) = some (a, .inr (1, [.ref ao, .int (nI n), .ref a1, .ref a2, .ref a3, .int (nI r)])) ∧ g (3, 0) = some (ao, .inl (1, cap n, .inl o)) ∧ g (4, 0) = some (a1, .inl (0, cap r, .inl f1)) ∧ g (5, 0) = some (a2, .inl (0, cap r, .inl f2)) ∧ g (6, 0) = some (a3, .inl (0, cap r, .inl f3))
def okS (n r : Nat) (o f1 f2 f3 : Nat → Int32) : Prop := n ≤ 4096 ∧ r ≤ 4096 ∧ (∀ j, o j = 0 ∨ o j = 1) ∧ (∀ j, n ≤ j → o j = 0) ∧ ∀ j, r ≤ j → f1 j = 0 ∧ f2 j = 0 ∧ f3 j = 0
theorem pS.fr {P : Nat → Bool} {g g1 : gh_H} {a n r : Nat} {o f1 f2 f3 : Nat → Int32} (h : pS g a n r o f1 f2 f3) (hf : fr P g g1) (hP : P 2 = false ∧ P 3 = false ∧ P 4 = false ∧ P 5 = false ∧ P 6 = false) : pS g1 a n r o f1 f2 f3 := by
  obtain ⟨ao, a1, a2, a3, h1, h2, h3, h4, h5⟩ := h
  exact ⟨ao, a1, a2, a3, hf.at hP.1 h1, hf.at hP.2.1 h2, hf.at hP.2.2.1 h3, hf.at hP.2.2.2.1 h4, hf.at hP.2.2.2.2 h5⟩
theorem ext_o {n : Nat} {o : Nat → Int32} (h : ∀ j, n ≤ j → o j = 0) : ext n o = o := by
  funext j
  unfold ext
  split
  · rfl
  · exact (h j (by omega)).symm
theorem fit01 {o : Nat → Int32} (h : ∀ j, o j = 0 ∨ o j = 1) (j : Nat) : fits .byte (.int (o j)) = true := by rcases h j with e | e <;> rw [e] <;> rfl
def kS (k : Nat) : Bool := k == 2 || k == 3 || k == 4 || k == 5 || k == 6 || decide (60 ≤ k)
set_option maxRecDepth 100000 in
set_option maxHeartbeats 4000000 in
theorem c_fresh (l : Launch) (d : gh_D) (g : gh_H) {a n r : Nat} {o f1 f2 f3 : Nat → Int32} (hp : pS g a n r o f1 f2 f3) (ok : okS n r o f1 f2 f3) (hn : n < 4096) : gh_C l d mS_fresh (rr 3 1 (2 * cap (n + 1) - 2 * cap n)) [.ref a] g (fun v g1 => v = some (.int (nI n)) ∧ pS g1 a (n + 1) r o f1 f2 f3 ∧ fr kS g g1) := by
  obtain ⟨ao, a1, a2, a3, h1, h2, h3, h4, h5⟩ := hp
  have h64 := cap_64 n
  have h65 := cap_64 r
  have hle := cap_le n
  have hge := cap_ge ok.1
  have hn4 := ok.1
  have hr4 := ok.2.1
  refine gh_of [some (.ref a)] (by decide) rfl (Nat.le_of_ble_eq_true rfl) (by simp [Value.category]) (fun z C hQ => ?_)
  show gh_W l d z 0 [some (.ref a)] [] g 1 (2 * cap (n + 1) - 2 * cap n)
  refine gh_aload_n C dS_fresh_0 rfl ?_
  refine gh_get C fS_25 h1 rfl dS_fresh_1 ?_
  refine gh_aload_n C dS_fresh_4 rfl ?_
  refine gh_get C fS_11 h1 rfl dS_fresh_5 ?_
  refine gh_alen C h2 rfl dS_fresh_8 ?_
  refine gh_icmp_lt C 40 dS_fresh_9 (by decide) (fun c9 => ?_) (fun c9 => ?_)
  ·
    have hlt : n < cap n := (nI_ltI (by omega) (by omega)).mp c9
    skip
    refine gh_aload_n C dS_fresh_40 rfl ?_
    refine gh_get C fS_25 h1 rfl dS_fresh_41 ?_
    refine gh_aload_n C dS_fresh_44 rfl ?_
    refine gh_get C fS_11 h1 rfl dS_fresh_45 ?_
    refine gh_alen C h2 rfl dS_fresh_48 ?_
    refine gh_icmp_lt C 54 dS_fresh_49 (by decide) (fun c49 => ?_) (fun c49 => ?_)
    ·
      skip
      refine gh_aload_n C dS_fresh_54 rfl ?_
      refine gh_dup C dS_fresh_55 rfl ?_
      refine gh_get C fS_25 h1 rfl dS_fresh_56 ?_
      refine gh_iconst C 1 dS_fresh_59 (by decide) ?_
      refine gh_iadd C dS_fresh_60 ?_
      refine gh_ti (nI (n + 1)) (nI_1 n) ?_
      refine gh_putL C [.ref ao, .int (nI (n + 1)), .ref a1, .ref a2, .ref a3, .int (nI r)] pS_25 (by decide) h1 rfl (by simp) rfl rfl dS_fresh_61 ?_
      refine gh_aload_n C dS_fresh_64 rfl ?_
      refine gh_get C fS_25 gh_us rfl dS_fresh_65 ?_
      refine gh_iconst C 1 dS_fresh_68 (by decide) ?_
      refine gh_isub C dS_fresh_69 ?_
      refine gh_ti (nI n) (nI_pred n) ?_
      refine gh_iret C hQ rfl dS_fresh_70 ?_
      exact ⟨rfl, by rw [pS]; rw [cap_keep hlt]; exact ⟨ao, a1, a2, a3, gh_us, ((gh_un (gh_kd (by decide))).trans h2), ((gh_un (gh_kd (by decide))).trans h3), ((gh_un (gh_kd (by decide))).trans h4), ((gh_un (gh_kd (by decide))).trans h5)⟩, (fr.rf.u rfl)⟩
    · first | exact absurd (nI_lt hlt (by omega)) c49 | exact absurd (nI_lt (show n < cap (n + 1) by omega) (by omega)) c49
  ·
    have hnl : ¬ n < cap n := fun h => c9 (nI_lt h (by omega))
    obtain ⟨hc1, hc2⟩ := cap_grow hnl hn
    refine gh_aload_n C dS_fresh_12 rfl ?_
    refine gh_get C fS_25 h1 rfl dS_fresh_13 ?_
    refine gh_sipush C 4096 dS_fresh_16 (by decide) ?_
    refine gh_icmp_ge C 40 dS_fresh_19 (by decide) (fun c19 => ?_) (fun c19 => ?_)
    · exact absurd c19 (show ¬ nI 4096 ≤ nI n from nI_ge hn (by omega))
    ·
      refine gh_aload_n C dS_fresh_22 rfl ?_
      refine gh_aload_n C dS_fresh_23 rfl ?_
      refine gh_get C fS_11 h1 rfl dS_fresh_24 ?_
      refine gh_iconst C 2 dS_fresh_27 (by decide) ?_
      refine gh_aload_n C dS_fresh_28 rfl ?_
      refine gh_get C fS_11 h1 rfl dS_fresh_29 ?_
      refine gh_alen C h2 rfl dS_fresh_32 ?_
      refine gh_imul C dS_fresh_33 ?_
      refine gh_ti (nI (2 * cap n)) (by rw [show (2 : Int32) = nI 2 from rfl, pk_mul]) ?_
      refine gh_callS C [.ref ao, .int (nI (2 * cap n))] (c_copyOfB l d _ (2 * cap n) h2 (gh_kd (by decide)) (by have := cap_64 n; omega) (by omega) (fit01 ok.2.2.1)) lS_29 wA_copyOf0 sA_copyOf0 rfl rfl (Nat.le_of_ble_eq_true rfl) ⟨Nat.le_of_ble_eq_true rfl, Nat.le_of_ble_eq_true rfl⟩ (Nat.le_of_ble_eq_true rfl) (by show 2 * cap n ≤ _; omega) dS_fresh_34 (fun v34 g34 h34 => ?_)
      simp only [ext_o (show ∀ j, cap n ≤ j → o j = 0 from fun j hj => ok.2.2.2.1 j (by omega)), show 2 * cap n = cap (n + 1) by omega] at h34
      obtain ⟨q, rfl, rfl⟩ := h34
      refine gh_putL C [.ref q, .int (nI n), .ref a1, .ref a2, .ref a3, .int (nI r)] pS_11 (by decide) ((gh_un (gh_kd (by decide))).trans h1) rfl (by simp) rfl rfl dS_fresh_37 ?_
      refine gh_move C (61, 0) (3, 0) ?_
      refine gh_aload_n C dS_fresh_40 rfl ?_
      refine gh_get C fS_25 ((gh_mv_o (gh_kd (by decide)) (gh_kd (by decide))).trans gh_us) rfl dS_fresh_41 ?_
      refine gh_aload_n C dS_fresh_44 rfl ?_
      refine gh_get C fS_11 ((gh_mv_o (gh_kd (by decide)) (gh_kd (by decide))).trans gh_us) rfl dS_fresh_45 ?_
      refine gh_alen C (gh_mv_k.trans ((gh_un (gh_kd (by decide))).trans gh_us)) rfl dS_fresh_48 ?_
      refine gh_icmp_lt C 54 dS_fresh_49 (by decide) (fun c49 => ?_) (fun c49 => ?_)
      ·
        skip
        refine gh_aload_n C dS_fresh_54 rfl ?_
        refine gh_dup C dS_fresh_55 rfl ?_
        refine gh_get C fS_25 ((gh_mv_o (gh_kd (by decide)) (gh_kd (by decide))).trans gh_us) rfl dS_fresh_56 ?_
        refine gh_iconst C 1 dS_fresh_59 (by decide) ?_
        refine gh_iadd C dS_fresh_60 ?_
        refine gh_ti (nI (n + 1)) (nI_1 n) ?_
        refine gh_putL C [.ref q, .int (nI (n + 1)), .ref a1, .ref a2, .ref a3, .int (nI r)] pS_25 (by decide) ((gh_mv_o (gh_kd (by decide)) (gh_kd (by decide))).trans gh_us) rfl (by simp) rfl rfl dS_fresh_61 ?_
        refine gh_aload_n C dS_fresh_64 rfl ?_
        refine gh_get C fS_25 gh_us rfl dS_fresh_65 ?_
        refine gh_iconst C 1 dS_fresh_68 (by decide) ?_
        refine gh_isub C dS_fresh_69 ?_
        refine gh_ti (nI n) (nI_pred n) ?_
        refine gh_iret C hQ rfl dS_fresh_70 ?_
        exact ⟨rfl, ⟨q, a1, a2, a3, gh_us, ((gh_un (gh_kd (by decide))).trans (gh_mv_k.trans ((gh_un (gh_kd (by decide))).trans gh_us))), ((gh_un (gh_kd (by decide))).trans ((gh_mv_o (gh_kd (by decide)) (gh_kd (by decide))).trans ((gh_un (gh_kd (by decide))).trans ((gh_un (gh_kd (by decide))).trans h3)))), ((gh_un (gh_kd (by decide))).trans ((gh_mv_o (gh_kd (by decide)) (gh_kd (by decide))).trans ((gh_un (gh_kd (by decide))).trans ((gh_un (gh_kd (by decide))).trans h4)))), ((gh_un (gh_kd (by decide))).trans ((gh_mv_o (gh_kd (by decide)) (gh_kd (by decide))).trans ((gh_un (gh_kd (by decide))).trans ((gh_un (gh_kd (by decide))).trans h5))))⟩, ((((fr.rf.u rfl).u rfl).mv rfl rfl).u rfl)⟩
      · first | exact absurd (nI_lt hlt (by omega)) c49 | exact absurd (nI_lt (show n < cap (n + 1) by omega) (by omega)) c49
