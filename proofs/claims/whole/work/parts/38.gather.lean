/-! gatherInto: what a member holds, written into a row -/
def wrl (L : List Int32) (h : Nat → Int32) : Nat → Int32 := fun j => (L[j]?).getD (h j)
theorem wrl_0 (h : Nat → Int32) : wrl [] h = h := by funext j; simp [wrl]
theorem wrl_s (L : List Int32) (h : Nat → Int32) (x : Int32) : upd (wrl L h) L.length x = wrl (L ++ [x]) h := by
  funext j
  simp only [upd, wrl]
  by_cases hj : j = L.length
  · subst hj; simp
  · rw [if_neg hj]
    by_cases h2 : j < L.length
    · rw [List.getElem?_append_left h2]
    · rw [List.getElem?_eq_none (by omega), List.getElem?_eq_none (by simp; omega)]
def gl1 (sec : Int32) : List Int32 := if sec = -1 then [] else [sec]
def gl2 (f : Nat → Int32) (i : Nat) : List Int32 := ((List.range i).filter (fun j => decide (f j ≠ -1))).map f
def gl3 (u : Nat → Int32) (i : Nat) : List Int32 := (List.range i).map u
def gl (sec : Int32) (f u : Nat → Int32) (uc : Nat) : List Int32 := gl1 sec ++ gl2 f 5 ++ gl3 u uc
theorem gl1_len (sec : Int32) : (gl1 sec).length ≤ 1 := by unfold gl1; split <;> simp
theorem gl2_len (f : Nat → Int32) (i : Nat) : (gl2 f i).length ≤ i := by
  unfold gl2
  rw [List.length_map]
  exact Nat.le_trans (List.length_filter_le _ _) (by simp)
theorem gl3_len (u : Nat → Int32) (i : Nat) : (gl3 u i).length = i := by simp [gl3]
theorem gl2_s0 {f : Nat → Int32} {i : Nat} (h : f i = -1) : gl2 f (i + 1) = gl2 f i := by simp [gl2, List.range_succ, h]
theorem gl2_s1 {f : Nat → Int32} {i : Nat} (h : ¬ f i = -1) : gl2 f (i + 1) = gl2 f i ++ [f i] := by simp [gl2, List.range_succ, h]
theorem gl3_s (u : Nat → Int32) (i : Nat) : gl3 u (i + 1) = gl3 u i ++ [u i] := by simp [gl3, List.range_succ]
theorem len_s (L : List Int32) (x : Int32) : nI L.length + Int32.ofInt 1 = nI (L ++ [x]).length := by rw [List.length_append]; exact gh_inc L.length
set_option maxRecDepth 100000 in
set_option maxHeartbeats 4000000 in
theorem c_gatherInto (l : Launch) (d : gh_D) (g : gh_H) {m a ka ua uc : Nat} {ep lf sec stk : Int32} {f u : Nat → Int32} (hm : pM g m a ka ua ep lf sec stk uc f u) {hh : Nat} {hd : Nat → Int32} (hr : g (22, 0) = some (hh, .inl (0, 146, .inl hd))) (hu : uc ≤ 20) : gh_C l d mB_gatherInto (rr 0 0 0) [.ref a, .ref hh] g (fun v g1 => v = some (.int (nI (gl sec f u uc).length)) ∧ g1 = gh_u g (22, 0) (hh, .inl (0, 146, .inl (wrl (gl sec f u uc) hd)))) := by
  refine gh_of [some (.ref a), some (.ref hh), none, none] (by decide) rfl (Nat.le_of_ble_eq_true rfl) (by simp [Value.category]) (fun z C hQ => ?_)
  show gh_W l d z 0 [some (.ref a), some (.ref hh), none, none] [] g 0 0
  have l1 := gl1_len sec
  have loop2 : ∀ (c i : Nat), i + c = uc → gh_W l d z 57 [some (.ref a), some (.ref hh), some (.int (nI (gl1 sec ++ gl2 f 5 ++ gl3 u i).length)), some (.int (nI i))] [] (gh_u g (22, 0) (hh, .inl (0, 146, .inl (wrl (gl1 sec ++ gl2 f 5 ++ gl3 u i) hd)))) 0 0 := by
    intro c
    induction c with
    | zero =>
      intro i hi
      have hi : i = uc := by omega
      subst hi
      refine gh_iload_n C dB_gatherInto_57 rfl ?_
      refine gh_aload_n C dB_gatherInto_58 rfl ?_
      refine gh_get C fB_34 ((gh_un (gh_kd (by decide))).trans hm.1) rfl dB_gatherInto_59 ?_
      refine gh_icmp_ge C 83 dB_gatherInto_62 (by decide) (fun c62 => ?_) (fun c62 => ?_)
      ·
        refine gh_iload_n C dB_gatherInto_83 rfl ?_
        refine gh_iret C hQ rfl dB_gatherInto_84 ?_
        exact ⟨rfl, rfl⟩
      · exact absurd (nI_le (Nat.le_refl i) (by omega)) c62
    | succ c ih =>
      intro i hi
      have hlt : i < uc := by omega
      have l2 := gl2_len f 5
      have l3 := gl3_len u i
      have hb : (gl1 sec ++ gl2 f 5 ++ gl3 u i).length < 146 := by rw [List.length_append, List.length_append]; omega
      refine gh_iload_n C dB_gatherInto_57 rfl ?_
      refine gh_aload_n C dB_gatherInto_58 rfl ?_
      refine gh_get C fB_34 ((gh_un (gh_kd (by decide))).trans hm.1) rfl dB_gatherInto_59 ?_
      refine gh_icmp_ge C 83 dB_gatherInto_62 (by decide) (fun c62 => ?_) (fun c62 => ?_)
      · exact absurd c62 (nI_ge hlt (by omega))
      ·
        refine gh_aload_n C dB_gatherInto_65 rfl ?_
        refine gh_iload_n C dB_gatherInto_66 rfl ?_
        refine gh_aload_n C dB_gatherInto_67 rfl ?_
        refine gh_get C fB_25 ((gh_un (gh_kd (by decide))).trans hm.1) rfl dB_gatherInto_68 ?_
        refine gh_iload_n C dB_gatherInto_71 rfl ?_
        refine gh_ialdN C (i) ((gh_un (gh_kd (by decide))).trans hm.2.2) rfl rfl ⟨by omega, by decide⟩ dB_gatherInto_72 ?_
        refine gh_iastN C ((gl1 sec ++ gl2 f 5 ++ gl3 u i).length) gh_us rfl rfl ⟨hb, by decide⟩ dB_gatherInto_73 ?_
        rw [gh_uu, wrl_s]
        refine gh_iinc C (nI ((gl1 sec ++ gl2 f 5 ++ gl3 u i) ++ [u i]).length) [some (.ref a), some (.ref hh), some (.int (nI ((gl1 sec ++ gl2 f 5 ++ gl3 u i) ++ [u i]).length)), some (.int (nI i))] dB_gatherInto_74 rfl (len_s (gl1 sec ++ gl2 f 5 ++ gl3 u i) (u i)) rfl ?_
        refine gh_iinc C (nI (i + 1)) [some (.ref a), some (.ref hh), some (.int (nI ((gl1 sec ++ gl2 f 5 ++ gl3 u i) ++ [u i]).length)), some (.int (nI (i + 1)))] dB_gatherInto_77 rfl (gh_inc i) rfl ?_
        refine gh_goto C 57 dB_gatherInto_80 (by decide) ?_
        have h := ih (i + 1) (by omega)
        rw [gl3_s, ← List.append_assoc] at h
        exact h
  have loop1 : ∀ (c i : Nat), i + c = 5 → gh_W l d z 22 [some (.ref a), some (.ref hh), some (.int (nI (gl1 sec ++ gl2 f i).length)), some (.int (nI i))] [] (gh_u g (22, 0) (hh, .inl (0, 146, .inl (wrl (gl1 sec ++ gl2 f i) hd)))) 0 0 := by
    intro c
    induction c with
    | zero =>
      intro i hi
      have hi : i = 5 := by omega
      subst hi
      refine gh_iload_n C dB_gatherInto_22 rfl ?_
      refine gh_iconst C 4 dB_gatherInto_23 (by decide) ?_
      refine gh_icmp_gt C 55 dB_gatherInto_24 (by decide) (fun c24 => ?_) (fun c24 => ?_)
      ·
        refine gh_iconst C 0 dB_gatherInto_55 (by decide) ?_
        refine gh_istore_n C [some (.ref a), some (.ref hh), some (.int (nI (gl1 sec ++ gl2 f 5).length)), some (.int 0)] dB_gatherInto_56 rfl (Nat.le_of_ble_eq_true rfl) ?_
        have h := loop2 uc 0 (by omega)
        rw [show gl3 u 0 = [] from rfl, List.append_nil] at h
        exact h
      · exact absurd (show (4 : Int32) < nI 5 from nI_lt (a := 4) (by decide) (by decide)) c24
    | succ c ih =>
      intro i hi
      have l2 := gl2_len f i
      have hb : (gl1 sec ++ gl2 f i).length < 146 := by rw [List.length_append]; omega
      refine gh_iload_n C dB_gatherInto_22 rfl ?_
      refine gh_iconst C 4 dB_gatherInto_23 (by decide) ?_
      refine gh_icmp_gt C 55 dB_gatherInto_24 (by decide) (fun c24 => ?_) (fun c24 => ?_)
      · exact absurd c24 (show ¬ nI 4 < nI i from nI_nlt (by omega) (by decide))
      ·
        refine gh_aload_n C dB_gatherInto_27 rfl ?_
        refine gh_get C fB_21 ((gh_un (gh_kd (by decide))).trans hm.1) rfl dB_gatherInto_28 ?_
        refine gh_iload_n C dB_gatherInto_31 rfl ?_
        refine gh_ialdN C (i) ((gh_un (gh_kd (by decide))).trans hm.2.1) rfl rfl ⟨by omega, by decide⟩ dB_gatherInto_32 ?_
        refine gh_iconst C (-1) dB_gatherInto_33 (by decide) ?_
        refine gh_icmp_eq C 49 dB_gatherInto_34 (by decide) (fun c34 => ?_) (fun c34 => ?_)
        ·
          have hz := c34
          refine gh_iinc C (nI (i + 1)) [some (.ref a), some (.ref hh), some (.int (nI (gl1 sec ++ gl2 f i).length)), some (.int (nI (i + 1)))] dB_gatherInto_49 rfl (gh_inc i) rfl ?_
          refine gh_goto C 22 dB_gatherInto_52 (by decide) ?_
          have h := ih (i + 1) (by omega)
          first | (rw [gl2_s0 hz] at h; exact h) | (rw [gl2_s1 hz, ← List.append_assoc] at h; exact h)
        ·
          have hz := c34
          refine gh_aload_n C dB_gatherInto_37 rfl ?_
          refine gh_iload_n C dB_gatherInto_38 rfl ?_
          refine gh_aload_n C dB_gatherInto_39 rfl ?_
          refine gh_get C fB_21 ((gh_un (gh_kd (by decide))).trans hm.1) rfl dB_gatherInto_40 ?_
          refine gh_iload_n C dB_gatherInto_43 rfl ?_
          refine gh_ialdN C (i) ((gh_un (gh_kd (by decide))).trans hm.2.1) rfl rfl ⟨by omega, by decide⟩ dB_gatherInto_44 ?_
          refine gh_iastN C ((gl1 sec ++ gl2 f i).length) gh_us rfl rfl ⟨hb, by decide⟩ dB_gatherInto_45 ?_
          rw [gh_uu, wrl_s]
          refine gh_iinc C (nI ((gl1 sec ++ gl2 f i) ++ [f i]).length) [some (.ref a), some (.ref hh), some (.int (nI ((gl1 sec ++ gl2 f i) ++ [f i]).length)), some (.int (nI i))] dB_gatherInto_46 rfl (len_s (gl1 sec ++ gl2 f i) (f i)) rfl ?_
          refine gh_iinc C (nI (i + 1)) [some (.ref a), some (.ref hh), some (.int (nI ((gl1 sec ++ gl2 f i) ++ [f i]).length)), some (.int (nI (i + 1)))] dB_gatherInto_49 rfl (gh_inc i) rfl ?_
          refine gh_goto C 22 dB_gatherInto_52 (by decide) ?_
          have h := ih (i + 1) (by omega)
          first | (rw [gl2_s0 hz] at h; exact h) | (rw [gl2_s1 hz, ← List.append_assoc] at h; exact h)
  refine gh_iconst C 0 dB_gatherInto_0 (by decide) ?_
  refine gh_istore_n C [some (.ref a), some (.ref hh), some (.int 0), none] dB_gatherInto_1 rfl (Nat.le_of_ble_eq_true rfl) ?_
  refine gh_aload_n C dB_gatherInto_2 rfl ?_
  refine gh_get C fB_18 hm.1 rfl dB_gatherInto_3 ?_
  refine gh_iconst C (-1) dB_gatherInto_6 (by decide) ?_
  refine gh_icmp_eq C 20 dB_gatherInto_7 (by decide) (fun c7 => ?_) (fun c7 => ?_)
  ·
    have hz : gl1 sec = [] := if_pos c7
    refine gh_iconst C 0 dB_gatherInto_20 (by decide) ?_
    refine gh_istore_n C [some (.ref a), some (.ref hh), some (.int 0), some (.int 0)] dB_gatherInto_21 rfl (Nat.le_of_ble_eq_true rfl) ?_
    have h := loop1 5 0 (by omega)
    rw [show gl2 f 0 = [] from rfl, List.append_nil, hz] at h
    first | (rw [wrl_0, gh_uself hr] at h; exact h) | (rw [show wrl [sec] hd = upd hd 0 sec from (wrl_s [] hd sec).symm.trans (by rw [wrl_0]; rfl)] at h; exact h)
  ·
    have hz : gl1 sec = [sec] := if_neg c7
    refine gh_aload_n C dB_gatherInto_10 rfl ?_
    refine gh_iload_n C dB_gatherInto_11 rfl ?_
    refine gh_aload_n C dB_gatherInto_12 rfl ?_
    refine gh_get C fB_18 hm.1 rfl dB_gatherInto_13 ?_
    refine gh_iastN C (0) hr rfl rfl ⟨by decide, by decide⟩ dB_gatherInto_16 ?_
    refine gh_iinc C (nI 1) [some (.ref a), some (.ref hh), some (.int (nI 1)), none] dB_gatherInto_17 rfl rfl rfl ?_
    refine gh_iconst C 0 dB_gatherInto_20 (by decide) ?_
    refine gh_istore_n C [some (.ref a), some (.ref hh), some (.int (nI 1)), some (.int 0)] dB_gatherInto_21 rfl (Nat.le_of_ble_eq_true rfl) ?_
    have h := loop1 5 0 (by omega)
    rw [show gl2 f 0 = [] from rfl, List.append_nil, hz] at h
    first | (rw [wrl_0, gh_uself hr] at h; exact h) | (rw [show wrl [sec] hd = upd hd 0 sec from (wrl_s [] hd sec).symm.trans (by rw [wrl_0]; rfl)] at h; exact h)
