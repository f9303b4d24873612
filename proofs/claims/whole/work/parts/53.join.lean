/-! gather, earliestWelcome, joinBy -/
def gp (S : SC) (m : Nat) : Nat → List Int32
  | 0 => []
  | i + 1 => if S.2.1 11 i = nI m ∧ S.2.1 16 i = 0 then gp S m i ++ [S.2.1 12 i, S.2.1 13 i] else gp S m i
theorem nI_2x (n : Nat) : nI n + Int32.ofInt 2 = nI (n + 2) := by
  have h1 := nI_1 n
  have h2 := nI_1 (n + 1)
  rw [← h1] at h2
  rw [← h2, Int32.add_assoc]
  rfl
theorem gp_len (S : SC) (m : Nat) : ∀ i, (gp S m i).length ≤ 2 * i
  | 0 => Nat.le_refl _
  | i + 1 => by
    have := gp_len S m i
    unfold gp
    split
    · rw [List.length_append]; simp; omega
    · omega
/-- all that a member holds, in the class's order -/
def gA (S : SC) (m : Nat) : List Int32 := gl (S.2.1 2 m) (S.2.2 0 m) (S.2.2 1 m) (S.1 1 m) ++ gp S m (sP S)
theorem gl_len (sec : Int32) (f u : Nat → Int32) {uc : Nat} (h : uc ≤ 20) : (gl sec f u uc).length ≤ 26 := by
  have h1 := gl1_len sec
  have h2 := gl2_len f 5
  have h3 := gl3_len u uc
  unfold gl
  rw [List.length_append, List.length_append]
  omega
theorem wrl_2 (L : List Int32) (h : Nat → Int32) (x y : Int32) : upd (upd (wrl L h) L.length x) (L.length + 1) y = wrl (L ++ [x, y]) h := by
  have h1 := wrl_s (L ++ [x]) h y
  rw [List.length_append] at h1
  rw [wrl_s, show L ++ [x, y] = L ++ [x] ++ [y] by simp]
  exact h1
theorem cA.he {g : gh_H} {Z : ZC} {S : SC} {n : Nat} (h : cA g Z S n) (f : Nat → Int32) : cA (gh_u g (22, 0) (Z 22 0, .inl (0, 146, .inl f))) Z S n := by
  have hf : fr (fun k => k == 22) g (gh_u g (22, 0) (Z 22 0, .inl (0, 146, .inl f))) := fr.rf.u rfl
  exact ⟨h.1.fr hf (by decide), h.2.1.fr hf (by decide), h.2.2.1.fr hf (by decide), h.2.2.2.1.fr hf (by decide), h.2.2.2.2.1.fr hf (by decide), h.2.2.2.2.2.1.fr hf (by decide), h.2.2.2.2.2.2.1.fr hf (by decide), ⟨f, gh_us⟩, h.2.2.2.2.2.2.2.2⟩
set_option maxRecDepth 100000 in
set_option maxHeartbeats 4000000 in
theorem c_gather (l : Launch) (d : gh_D) (g : gh_H) {Z : ZC} {S : SC} {n : Nat} (hA : cA g Z S n) (m : Nat) (hm : m < 16) (hP60 : sP S ≤ 60) (hu : S.1 1 m ≤ 20) : gh_C l d mG_gather (rr 1 0 0) [.ref (Z 1 0), .int (nI m)] g (fun v g1 => v = some (.int (nI (gA S m).length)) ∧ ∃ hd : Nat → Int32, g1 = gh_u g (22, 0) (Z 22 0, .inl (0, 146, .inl (wrl (gA S m) hd)))) := by
  refine gh_of [some (.ref (Z 1 0)), some (.int (nI m)), none, none] (by decide) rfl (Nat.le_of_ble_eq_true rfl) (by simp [Value.category]) (fun z C hQ => ?_)
  show gh_W l d z 0 [some (.ref (Z 1 0)), some (.int (nI m)), none, none] [] g 0 0
  obtain ⟨⟨qm, hqm, hqm2⟩, hM2⟩ := id hA.2.2.1
  obtain ⟨⟨qk, hqk, hqk2⟩, hK2⟩ := id hA.2.2.2.2.1
  obtain ⟨hd, hhd⟩ := id hA.2.2.2.2.2.2.2.1
  have hmm := hM2 m hm
  obtain ⟨L0, eL0⟩ : ∃ L0, L0 = gl (S.2.1 2 m) (S.2.2 0 m) (S.2.2 1 m) (S.1 1 m) := ⟨_, rfl⟩
  have l0 : L0.length ≤ 26 := by rw [eL0]; exact gl_len _ _ _ hu
  have loop : ∀ (c i : Nat), i + c = sP S → gh_W l d z 16 [some (.ref (Z 1 0)), some (.int (nI m)), some (.int (nI (L0 ++ gp S m i).length)), some (.int (nI i))] [] (gh_u g (22, 0) (Z 22 0, .inl (0, 146, .inl (wrl (L0 ++ gp S m i) hd)))) 0 0 := by
    intro c
    induction c with
    | zero =>
      intro i hi
      have hi : i = sP S := by omega
      subst hi
      refine gh_iload_n C dG_gather_16 rfl ?_
      refine gh_aload_n C dG_gather_17 rfl ?_
      refine gh_get C fG_90 ((gh_un (gh_kd (by decide))).trans hA.1) rfl dG_gather_18 ?_
      refine gh_icmp_ge C 99 dG_gather_21 (by decide) (fun c21 => ?_) (fun c21 => ?_)
      ·
        refine gh_iload_n C dG_gather_99 rfl ?_
        refine gh_iret C hQ rfl dG_gather_100 ?_
        exact ⟨by unfold gA; rw [eL0], hd, by unfold gA; rw [eL0]⟩
      · exact absurd (nI_le (Nat.le_refl (sP S)) (by omega)) c21
    | succ c ih =>
      intro i hi
      have hlt : i < sP S := by omega
      have lg := gp_len S m i
      have hll : (L0 ++ gp S m i).length = L0.length + (gp S m i).length := List.length_append
      have hki := hK2 i hlt
      refine gh_iload_n C dG_gather_16 rfl ?_
      refine gh_aload_n C dG_gather_17 rfl ?_
      refine gh_get C fG_90 ((gh_un (gh_kd (by decide))).trans hA.1) rfl dG_gather_18 ?_
      refine gh_icmp_ge C 99 dG_gather_21 (by decide) (fun c21 => ?_) (fun c21 => ?_)
      · exact absurd c21 (nI_ge hlt (by omega))
      ·
        refine gh_aload_n C dG_gather_24 rfl ?_
        refine gh_get C fG_30 ((gh_un (gh_kd (by decide))).trans hA.1) rfl dG_gather_25 ?_
        refine gh_iload_n C dG_gather_28 rfl ?_
        refine gh_aaldN C (i) ((gh_un (gh_kd (by decide))).trans hqk) rfl rfl ⟨by omega, by decide⟩ dG_gather_29 ?_
        refine gh_tr (some (Z 18 i)) (hqk2 i hlt) ?_
        refine gh_get C fG_263 ((gh_un (gh_kd (by decide))).trans hki) rfl dG_gather_30 ?_
        refine gh_iload_n C dG_gather_33 rfl ?_
        refine gh_icmp_ne C 93 dG_gather_34 (by decide) (fun c34 => ?_) (fun c34 => ?_)
        · have ez : gp S m (i + 1) = gp S m i := if_neg (fun h9 => c34 h9.1)
          refine gh_iinc C (nI (i + 1)) [some (.ref (Z 1 0)), some (.int (nI m)), some (.int (nI (L0 ++ gp S m i).length)), some (.int (nI (i + 1)))] dG_gather_93 rfl (gh_inc i) rfl ?_
          refine gh_goto C 16 dG_gather_96 (by decide) ?_
          have h1 := ih (i + 1) (by omega)
          rw [ez] at h1
          exact h1
        ·
          refine gh_aload_n C dG_gather_37 rfl ?_
          refine gh_get C fG_30 ((gh_un (gh_kd (by decide))).trans hA.1) rfl dG_gather_38 ?_
          refine gh_iload_n C dG_gather_41 rfl ?_
          refine gh_aaldN C (i) ((gh_un (gh_kd (by decide))).trans hqk) rfl rfl ⟨by omega, by decide⟩ dG_gather_42 ?_
          refine gh_tr (some (Z 18 i)) (hqk2 i hlt) ?_
          refine gh_get C fG_314 ((gh_un (gh_kd (by decide))).trans hki) rfl dG_gather_43 ?_
          refine gh_if_ne C 93 dG_gather_46 (by decide) (fun c46 => ?_) (fun c46 => ?_)
          · have ez : gp S m (i + 1) = gp S m i := if_neg (fun h9 => c46 h9.2)
            refine gh_iinc C (nI (i + 1)) [some (.ref (Z 1 0)), some (.int (nI m)), some (.int (nI (L0 ++ gp S m i).length)), some (.int (nI (i + 1)))] dG_gather_93 rfl (gh_inc i) rfl ?_
            refine gh_goto C 16 dG_gather_96 (by decide) ?_
            have h1 := ih (i + 1) (by omega)
            rw [ez] at h1
            exact h1
          ·
            refine gh_iload_n C dG_gather_49 rfl ?_
            refine gh_iconst C 1 dG_gather_50 (by decide) ?_
            refine gh_iadd C dG_gather_51 ?_
            refine gh_ti (nI ((L0 ++ gp S m i).length + 1)) (nI_1 _) ?_
            refine gh_sipush C 146 dG_gather_52 (by decide) ?_
            refine gh_icmp_ge C 93 dG_gather_55 (by decide) (fun c55 => ?_) (fun c55 => ?_)
            · exact absurd c55 (show ¬ nI 146 ≤ nI ((L0 ++ gp S m i).length + 1) from nI_ge (by omega) (by decide))
            ·
              have ez : gp S m (i + 1) = gp S m i ++ [S.2.1 12 i, S.2.1 13 i] := if_pos ⟨c34, c46⟩
              refine gh_aload_n C dG_gather_58 rfl ?_
              refine gh_get C fG_44 ((gh_un (gh_kd (by decide))).trans hA.1) rfl dG_gather_59 ?_
              refine gh_iload_n C dG_gather_62 rfl ?_
              refine gh_aload_n C dG_gather_63 rfl ?_
              refine gh_get C fG_30 ((gh_un (gh_kd (by decide))).trans hA.1) rfl dG_gather_64 ?_
              refine gh_iload_n C dG_gather_67 rfl ?_
              refine gh_aaldN C (i) ((gh_un (gh_kd (by decide))).trans hqk) rfl rfl ⟨by omega, by decide⟩ dG_gather_68 ?_
              refine gh_tr (some (Z 18 i)) (hqk2 i hlt) ?_
              refine gh_get C fG_305 ((gh_un (gh_kd (by decide))).trans hki) rfl dG_gather_69 ?_
              refine gh_iastN C ((L0 ++ gp S m i).length) gh_us rfl rfl ⟨by omega, by decide⟩ dG_gather_72 ?_
              refine gh_aload_n C dG_gather_73 rfl ?_
              refine gh_get C fG_44 ((gh_un (gh_kd (by decide))).trans ((gh_un (gh_kd (by decide))).trans hA.1)) rfl dG_gather_74 ?_
              refine gh_iload_n C dG_gather_77 rfl ?_
              refine gh_iconst C 1 dG_gather_78 (by decide) ?_
              refine gh_iadd C dG_gather_79 ?_
              refine gh_ti (nI ((L0 ++ gp S m i).length + 1)) (nI_1 _) ?_
              refine gh_aload_n C dG_gather_80 rfl ?_
              refine gh_get C fG_30 ((gh_un (gh_kd (by decide))).trans ((gh_un (gh_kd (by decide))).trans hA.1)) rfl dG_gather_81 ?_
              refine gh_iload_n C dG_gather_84 rfl ?_
              refine gh_aaldN C (i) ((gh_un (gh_kd (by decide))).trans ((gh_un (gh_kd (by decide))).trans hqk)) rfl rfl ⟨by omega, by decide⟩ dG_gather_85 ?_
              refine gh_tr (some (Z 18 i)) (hqk2 i hlt) ?_
              refine gh_get C fG_272 ((gh_un (gh_kd (by decide))).trans ((gh_un (gh_kd (by decide))).trans hki)) rfl dG_gather_86 ?_
              refine gh_iastN C ((L0 ++ gp S m i).length + 1) gh_us rfl rfl ⟨by omega, by decide⟩ dG_gather_89 ?_
              refine gh_iinc C (nI ((L0 ++ gp S m i).length + 2)) [some (.ref (Z 1 0)), some (.int (nI m)), some (.int (nI ((L0 ++ gp S m i).length + 2))), some (.int (nI i))] dG_gather_90 rfl (nI_2x _) rfl ?_
              rw [gh_uu, gh_uu, wrl_2]
              refine gh_iinc C (nI (i + 1)) [some (.ref (Z 1 0)), some (.int (nI m)), some (.int (nI ((L0 ++ gp S m i).length + 2))), some (.int (nI (i + 1)))] dG_gather_93 rfl (gh_inc i) rfl ?_
              refine gh_goto C 16 dG_gather_96 (by decide) ?_
              have h1 := ih (i + 1) (by omega)
              rw [ez, ← List.append_assoc] at h1
              rw [show (L0 ++ gp S m i ++ [S.2.1 12 i, S.2.1 13 i]).length = (L0 ++ gp S m i).length + 2 by rw [List.length_append]; rfl] at h1
              exact h1
  refine gh_aload_n C dG_gather_0 rfl ?_
  refine gh_get C fG_18 hA.1 rfl dG_gather_1 ?_
  refine gh_iload_n C dG_gather_4 rfl ?_
  refine gh_aaldN C (m) hqm rfl rfl ⟨hm, by decide⟩ dG_gather_5 ?_
  refine gh_tr (some (Z 8 m)) (hqm2 m hm) ?_
  refine gh_aload_n C dG_gather_6 rfl ?_
  refine gh_get C fG_44 hA.1 rfl dG_gather_7 ?_
  refine gh_callV C [.ref (Z 22 0)] (c_gatherInto l d _ hmm hhd hu) lG_324 wB_gatherInto vB_gatherInto hmm.1 rfl rfl rfl (Nat.le_of_ble_eq_true rfl) ⟨Nat.le_of_ble_eq_true rfl, Nat.le_of_ble_eq_true rfl⟩ (Nat.le_of_ble_eq_true rfl) (Nat.le_of_ble_eq_true rfl) dG_gather_10 (fun v10 g10 h10 => ?_)
  obtain ⟨rfl, rfl⟩ := h10
  rw [← eL0]
  refine gh_istore_n C [some (.ref (Z 1 0)), some (.int (nI m)), some (.int (nI L0.length)), none] dG_gather_13 rfl (Nat.le_of_ble_eq_true rfl) ?_
  refine gh_iconst C 0 dG_gather_14 (by decide) ?_
  refine gh_istore_n C [some (.ref (Z 1 0)), some (.int (nI m)), some (.int (nI L0.length)), some (.int 0)] dG_gather_15 rfl (Nat.le_of_ble_eq_true rfl) ?_
  have h1 := loop (sP S) 0 (by omega)
  rw [show gp S m 0 = [] from rfl, List.append_nil] at h1
  exact h1
/-- the package by which a member joins next -/
abbrev ewQ (S : SC) (m i : Nat) (b : Option Nat) : Prop := S.2.1 11 i = nI m ∧ S.2.1 16 i = 0 ∧ S.2.1 14 i ≠ -1 ∧ (b = none ∨ S.2.1 14 i < S.2.1 14 (b.getD 0))
def ew (S : SC) (m : Nat) : Nat → Option Nat
  | 0 => none
  | i + 1 => if ewQ S m i (ew S m i) then some i else ew S m i
def oJ (w : Option Nat) : Int32 := match w with
  | none => -1
  | some p => nI p
theorem ew_lt (S : SC) (m : Nat) : ∀ i p, ew S m i = some p → p < i
  | 0, p, h => by cases h
  | i + 1, p, h => by
    unfold ew at h
    split at h
    · cases h; exact Nat.lt_succ_self _
    · exact Nat.lt_succ_of_lt (ew_lt S m i p h)
set_option maxRecDepth 100000 in
set_option maxHeartbeats 4000000 in
theorem c_earliest (l : Launch) (d : gh_D) (g : gh_H) {Z : ZC} {S : SC} (hG : cG g Z S) (hK : cK g Z S) (m : Nat) (hP60 : sP S ≤ 60) : gh_C l d mG_earliestWelcome (rr 0 0 0) [.ref (Z 1 0), .int (nI m)] g (fun v g1 => v = some (.int (oJ (ew S m (sP S)))) ∧ g1 = g) := by
  refine gh_of [some (.ref (Z 1 0)), some (.int (nI m)), none, none, none] (by decide) rfl (Nat.le_of_ble_eq_true rfl) (by simp [Value.category]) (fun z C hQ => ?_)
  show gh_W l d z 0 [some (.ref (Z 1 0)), some (.int (nI m)), none, none, none] [] g 0 0
  obtain ⟨⟨qk, hqk, hqk2⟩, hK2⟩ := id hK
  have loop : ∀ (c i : Nat) (y4 : Option Value), i + c = sP S → gh_W l d z 4 [some (.ref (Z 1 0)), some (.int (nI m)), some (.int (oJ (ew S m i))), some (.int (nI i)), y4] [] g 0 0 := by
    intro c
    induction c with
    | zero =>
      intro i y4 hi
      have hi : i = sP S := by omega
      subst hi
      refine gh_iload_n C dG_earliestWelcome_4 rfl ?_
      refine gh_aload_n C dG_earliestWelcome_5 rfl ?_
      refine gh_get C fG_90 hG rfl dG_earliestWelcome_6 ?_
      refine gh_icmp_ge C 76 dG_earliestWelcome_9 (by decide) (fun c9 => ?_) (fun c9 => ?_)
      ·
        refine gh_iload_n C dG_earliestWelcome_76 rfl ?_
        refine gh_iret C hQ rfl dG_earliestWelcome_77 ?_
        exact ⟨rfl, rfl⟩
      · exact absurd (nI_le (Nat.le_refl (sP S)) (by omega)) c9
    | succ c ih =>
      intro i y4 hi
      have hlt : i < sP S := by omega
      have hki := hK2 i hlt
      have inc : ∀ (b : Int32) (y : Option Value), b = oJ (ew S m (i + 1)) → gh_W l d z 70 [some (.ref (Z 1 0)), some (.int (nI m)), some (.int b), some (.int (nI i)), y] [] g 0 0 := by
        intro b y hb
        rw [hb]
        refine gh_iinc C (nI (i + 1)) [some (.ref (Z 1 0)), some (.int (nI m)), some (.int (oJ (ew S m (i + 1)))), some (.int (nI (i + 1))), y] dG_earliestWelcome_70 rfl (gh_inc i) rfl ?_
        refine gh_goto C 4 dG_earliestWelcome_73 (by decide) ?_
        exact ih (i + 1) _ (by omega)
      refine gh_iload_n C dG_earliestWelcome_4 rfl ?_
      refine gh_aload_n C dG_earliestWelcome_5 rfl ?_
      refine gh_get C fG_90 hG rfl dG_earliestWelcome_6 ?_
      refine gh_icmp_ge C 76 dG_earliestWelcome_9 (by decide) (fun c9 => ?_) (fun c9 => ?_)
      · exact absurd c9 (nI_ge hlt (by omega))
      ·
        refine gh_aload_n C dG_earliestWelcome_12 rfl ?_
        refine gh_get C fG_30 hG rfl dG_earliestWelcome_13 ?_
        refine gh_iload_n C dG_earliestWelcome_16 rfl ?_
        refine gh_aaldN C (i) hqk rfl rfl ⟨by omega, by decide⟩ dG_earliestWelcome_17 ?_
        refine gh_tr (some (Z 18 i)) (hqk2 i hlt) ?_
        refine gh_astore C [some (.ref (Z 1 0)), some (.int (nI m)), some (.int (oJ (ew S m i))), some (.int (nI i)), some (.ref (Z 18 i))] dG_earliestWelcome_18 rfl (Nat.le_of_ble_eq_true rfl) ?_
        refine gh_aload C dG_earliestWelcome_20 rfl ?_
        refine gh_get C fG_263 hki rfl dG_earliestWelcome_22 ?_
        refine gh_iload_n C dG_earliestWelcome_25 rfl ?_
        refine gh_icmp_ne C 70 dG_earliestWelcome_26 (by decide) (fun c26 => ?_) (fun c26 => ?_)
        · exact inc _ _ (by rw [show ew S m (i + 1) = ew S m i from if_neg (fun h9 => c26 h9.1)])
        ·
          refine gh_aload C dG_earliestWelcome_29 rfl ?_
          refine gh_get C fG_314 hki rfl dG_earliestWelcome_31 ?_
          refine gh_if_ne C 70 dG_earliestWelcome_34 (by decide) (fun c34 => ?_) (fun c34 => ?_)
          · exact inc _ _ (by rw [show ew S m (i + 1) = ew S m i from if_neg (fun h9 => c34 h9.2.1)])
          ·
            refine gh_aload C dG_earliestWelcome_37 rfl ?_
            refine gh_get C fG_262 hki rfl dG_earliestWelcome_39 ?_
            refine gh_iconst C (-1) dG_earliestWelcome_42 (by decide) ?_
            refine gh_icmp_eq C 70 dG_earliestWelcome_43 (by decide) (fun c43 => ?_) (fun c43 => ?_)
            · exact inc _ _ (by rw [show ew S m (i + 1) = ew S m i from if_neg (fun h9 => h9.2.2.1 c43)])
            ·
              refine gh_iload_n C dG_earliestWelcome_46 rfl ?_
              refine gh_iconst C (-1) dG_earliestWelcome_47 (by decide) ?_
              refine gh_icmp_eq C 68 dG_earliestWelcome_48 (by decide) (fun c48 => ?_) (fun c48 => ?_)
              ·
                have hb : ew S m i = none := by
                  cases hx : ew S m i with
                  | none => rfl
                  | some p =>
                    rw [hx] at c48
                    have := ew_lt S m i p hx
                    exact absurd c48 (nI_ne1 (by omega))
                have ez : ew S m (i + 1) = some i := if_pos ⟨c26, c34, c43, Or.inl hb⟩
                refine gh_iload_n C dG_earliestWelcome_68 rfl ?_
                refine gh_istore_n C [some (.ref (Z 1 0)), some (.int (nI m)), some (.int (nI i)), some (.int (nI i)), some (.ref (Z 18 i))] dG_earliestWelcome_69 rfl (Nat.le_of_ble_eq_true rfl) ?_
                exact inc _ _ (by rw [ez]; rfl)
              ·
                obtain ⟨p, hp⟩ : ∃ p, ew S m i = some p := by
                  cases hx : ew S m i with
                  | none => rw [hx] at c48; exact absurd rfl c48
                  | some p => exact ⟨p, rfl⟩
                have hpl := ew_lt S m i p hp
                have hkp := hK2 p (by omega)
                refine gh_aload C dG_earliestWelcome_51 rfl ?_
                refine gh_get C fG_262 hki rfl dG_earliestWelcome_53 ?_
                refine gh_aload_n C dG_earliestWelcome_56 rfl ?_
                refine gh_get C fG_30 hG rfl dG_earliestWelcome_57 ?_
                refine gh_iload_n C dG_earliestWelcome_60 rfl ?_
                refine gh_aaldN C (p) hqk rfl (by rw [hp]; rfl) ⟨by omega, by decide⟩ dG_earliestWelcome_61 ?_
                refine gh_tr (some (Z 18 p)) (hqk2 p (by omega)) ?_
                refine gh_get C fG_262 hkp rfl dG_earliestWelcome_62 ?_
                refine gh_icmp_ge C 70 dG_earliestWelcome_65 (by decide) (fun c65 => ?_) (fun c65 => ?_)
                · exact inc _ _ (by rw [show ew S m (i + 1) = ew S m i from if_neg (fun h9 => by
                    rcases h9.2.2.2 with h8 | h8
                    · rw [hp] at h8; cases h8
                    · rw [hp] at h8; exact absurd h8 (Int32.not_lt.mpr c65))])
                ·
                  have ez : ew S m (i + 1) = some i := if_pos ⟨c26, c34, c43, Or.inr (by rw [hp]; exact Int32.not_le.mp c65)⟩
                  refine gh_iload_n C dG_earliestWelcome_68 rfl ?_
                  refine gh_istore_n C [some (.ref (Z 1 0)), some (.int (nI m)), some (.int (nI i)), some (.int (nI i)), some (.ref (Z 18 i))] dG_earliestWelcome_69 rfl (Nat.le_of_ble_eq_true rfl) ?_
                  exact inc _ _ (by rw [ez]; rfl)
  refine gh_iconst C (-1) dG_earliestWelcome_0 (by decide) ?_
  refine gh_istore_n C [some (.ref (Z 1 0)), some (.int (nI m)), some (.int (-1)), none, none] dG_earliestWelcome_1 rfl (Nat.le_of_ble_eq_true rfl) ?_
  refine gh_iconst C 0 dG_earliestWelcome_2 (by decide) ?_
  refine gh_istore_n C [some (.ref (Z 1 0)), some (.int (nI m)), some (.int (-1)), some (.int 0), none] dG_earliestWelcome_3 rfl (Nat.le_of_ble_eq_true rfl) ?_
  exact loop (sP S) 0 _ (by omega)
def jnS (S : SC) (m p e a : Nat) : SC := mbS (st1 S 16 p 1) m (nI e) (nI a) (S.2.1 5 e) (S.2.1 3 m) 0 (lrq (S.1 2 e) (S.2.2 2 e) (S.2.1 6 e) a (lowc (S.1 2 e) (S.2.1 6 e) a) (upd (fl 5 (-1) (S.2.2 0 m)) 0 (S.2.2 2 e (2 * a))))
set_option maxRecDepth 100000 in
set_option maxHeartbeats 4000000 in
theorem c_joinBy (l : Launch) (d : gh_D) (g : gh_H) {Z : ZC} {S : SC} (hA : cA g Z S (sE S)) (m p e a : Nat) (hm : m < 16) (hp : p < sP S) (hE60 : sE S ≤ 60) (he : e < sE S) (h14 : S.2.1 14 p = nI e) (h15 : S.2.1 15 p = nI a) (ha : a < 2 ^ S.1 2 e) : gh_C l d mG_joinBy (rr 3 0 0) [.ref (Z 1 0), .ref (Z 8 m), .ref (Z 18 p)] g (fun v g1 => v = none ∧ cA g1 Z (jnS S m p e a) (sE S) ∧ fr kA g g1) := by
  refine gh_of [some (.ref (Z 1 0)), some (.ref (Z 8 m)), some (.ref (Z 18 p)), none] (by decide) rfl (Nat.le_of_ble_eq_true rfl) (by simp [Value.category]) (fun z C hQ => ?_)
  show gh_W l d z 0 [some (.ref (Z 1 0)), some (.ref (Z 8 m)), some (.ref (Z 18 p)), none] [] g 0 0
  have hkp := hA.2.2.2.2.1.2 p hp
  have hw := hA.2.2.2.1.2 e he
  have ha16 : a < 16 := Nat.lt_of_lt_of_le ha (pow_le _ hw.2.2.2.2.2)
  obtain ⟨⟨qe, hqe, hqe2⟩, hE2⟩ := id hA.2.2.2.1
  have hin : inn (sE S) (S.2.1 14 p) = true := by rw [h14]; exact inn_3 (nI_pos (by omega)) (nI_ge he (by omega))
  refine gh_aload_n C dG_joinBy_0 rfl ?_
  refine gh_aload_n C dG_joinBy_1 rfl ?_
  refine gh_get C fG_262 hkp rfl dG_joinBy_2 ?_
  refine gh_callV C [.int (S.2.1 14 p)] (c_isEpoch l d _ hA.1 (S.2.1 14 p)) lG_184 wG_isEpoch vG_isEpoch hA.1 rfl rfl rfl (Nat.le_of_ble_eq_true rfl) ⟨Nat.le_of_ble_eq_true rfl, Nat.le_of_ble_eq_true rfl⟩ (Nat.le_of_ble_eq_true rfl) (Nat.le_of_ble_eq_true rfl) dG_joinBy_5 (fun v5 g5 h5 => ?_)
  obtain ⟨rfl, hg5⟩ := h5
  subst g5
  rw [if_pos hin]
  refine gh_if_ne C 12 dG_joinBy_8 (by decide) (fun c8 => ?_) (fun c8 => ?_)
  ·
    refine gh_aload_n C dG_joinBy_12 rfl ?_
    refine gh_get C fG_24 hA.1 rfl dG_joinBy_13 ?_
    refine gh_aload_n C dG_joinBy_16 rfl ?_
    refine gh_get C fG_262 hkp rfl dG_joinBy_17 ?_
    refine gh_aaldN C (e) hqe rfl h14 ⟨by omega, by decide⟩ dG_joinBy_20 ?_
    refine gh_tr (some (Z 12 e)) (hqe2 e he) ?_
    refine gh_astore_n C [some (.ref (Z 1 0)), some (.ref (Z 8 m)), some (.ref (Z 18 p)), some (.ref (Z 12 e))] dG_joinBy_21 rfl (Nat.le_of_ble_eq_true rfl) ?_
    refine gh_aload_n C dG_joinBy_22 rfl ?_
    refine gh_iconst C 1 dG_joinBy_23 (by decide) ?_
    refine gh_putL C [.int (S.2.1 11 p), .int (S.2.1 12 p), .int (S.2.1 13 p), .int (S.2.1 14 p), .int (S.2.1 15 p), .int 1] pG_314 (by decide) hkp rfl (by simp) rfl rfl dG_joinBy_24 ?_
    have hA1 := hA.pk (S1 := (st1 S 16 p 1)) (p := p) rfl rfl (fun c hc => by funext i; simp [st1, show c ≠ 16 by omega]) (fun c i hi => by simp [st1, hi])
    obtain ⟨g1, eg1⟩ : ∃ g1, g1 = gh_u g (18, p) (Z 18 p, .inr (5, [.int (S.2.1 11 p), .int (S.2.1 12 p), .int (S.2.1 13 p), .int (S.2.1 14 p), .int (S.2.1 15 p), .int 1])) := ⟨_, rfl⟩
    rw [← eg1]
    replace hA1 : cA g1 Z (st1 S 16 p 1) (sE S) := by rw [eg1]; simpa [st1] using hA1
    have hf1 : fr kA g g1 := by rw [eg1]; exact fr.rf.u rfl
    have hw1 := hA1.2.2.2.1.2 e he
    have hm1 := hA1.2.2.1.2 m hm
    have hk1 := hA1.2.2.2.2.1.2 p hp
    have h151 : (st1 S 16 p 1).2.1 15 p = nI a := h15
    refine gh_aload_n C dG_joinBy_27 rfl ?_
    refine gh_aload_n C dG_joinBy_28 rfl ?_
    refine gh_aload_n C dG_joinBy_29 rfl ?_
    refine gh_get C fG_278 hk1 rfl dG_joinBy_30 ?_
    refine gh_ti (nI a) h151 ?_
    refine gh_callV C [.ref (Z 12 e), .int (nI a)] (c_enter l d _ hm1 hw1.2 hw1.1 a ha) lG_79 wB_enter vB_enter hm1.1 rfl rfl rfl (Nat.le_of_ble_eq_true rfl) ⟨Nat.le_of_ble_eq_true rfl, Nat.le_of_ble_eq_true rfl⟩ (Nat.le_of_ble_eq_true rfl) (Nat.le_of_ble_eq_true rfl) dG_joinBy_33 (fun v33 g33 h33 => ?_)
    obtain ⟨rfl, rfl⟩ := h33
    have hA2 := hA1.mb hm (nI e) (nI a) ((st1 S 16 p 1).2.1 5 e) ((st1 S 16 p 1).2.1 3 m) 0 (upd (fl 5 (-1) ((st1 S 16 p 1).2.2 0 m)) 0 ((st1 S 16 p 1).2.2 2 e (2 * a)))
    obtain ⟨T2, eT2⟩ : ∃ T2, T2 = mbS (st1 S 16 p 1) m (nI e) (nI a) ((st1 S 16 p 1).2.1 5 e) ((st1 S 16 p 1).2.1 3 m) 0 (upd (fl 5 (-1) ((st1 S 16 p 1).2.2 0 m)) 0 ((st1 S 16 p 1).2.2 2 e (2 * a))) := ⟨_, rfl⟩
    rw [← eT2] at hA2
    have hw2 := hA2.2.2.2.1.2 e he
    have hm2 := hA2.2.2.1.2 m hm
    have hk2 := hA2.2.2.2.2.1.2 p (by rw [eT2]; exact hp)
    have h152 : T2.2.1 15 p = nI a := by rw [eT2]; exact h15
    have e1 : T2.1 2 = S.1 2 := by rw [eT2]; rfl
    have e2 : T2.2.2 2 = S.2.2 2 := by rw [eT2]; rfl
    have e6 : T2.2.1 6 = S.2.1 6 := by rw [eT2]; rfl
    have e11 : T2.2.1 1 m = nI a := by rw [eT2]; simp [mbS, st2, stN, st1]
    refine gh_aload_n C dG_joinBy_36 rfl ?_
    refine gh_aload_n C dG_joinBy_37 rfl ?_
    refine gh_aload_n C dG_joinBy_38 rfl ?_
    refine gh_aload_n C dG_joinBy_39 rfl ?_
    refine gh_get C fG_278 hk2 rfl dG_joinBy_40 ?_
    refine gh_ti (nI a) h152 ?_
    refine gh_callV C [.int (nI a)] (c_lowest l d _ hw2.2 hw2.1 a (by rw [e1]; exact ha)) lG_318 wE_lowestCounting vE_lowestCounting hw2.1 rfl rfl rfl (Nat.le_of_ble_eq_true rfl) ⟨Nat.le_of_ble_eq_true rfl, Nat.le_of_ble_eq_true rfl⟩ (Nat.le_of_ble_eq_true rfl) (Nat.le_of_ble_eq_true rfl) dG_joinBy_43 (fun v43 g43 h43 => ?_)
    obtain ⟨rfl, rfl⟩ := h43
    rw [lowh_ow]
    refine gh_callV C [.ref (Z 12 e), .int (owI (lowc (T2.1 2 e) (T2.2.1 6 e) a))] (c_learnPath l d _ hm2 hw2.2 hw2.1 a e11 ha16 (lowc (T2.1 2 e) (T2.2.1 6 e) a) (fun h hh => Nat.lt_of_lt_of_le (lowc_lt hh) hw2.2.2.2.2.2)) lG_321 wB_learnPath vB_learnPath hm2.1 rfl rfl rfl (Nat.le_of_ble_eq_true rfl) ⟨Nat.le_of_ble_eq_true rfl, Nat.le_of_ble_eq_true rfl⟩ (Nat.le_of_ble_eq_true rfl) (Nat.le_of_ble_eq_true rfl) dG_joinBy_46 (fun v46 g46 h46 => ?_)
    obtain ⟨rfl, rfl⟩ := h46
    refine gh_vret C hQ rfl dG_joinBy_49 ?_
    refine ⟨rfl, ?_, ?_⟩
    · rw [mst_mst]
      have hA3 := hA1.mb hm (T2.2.1 0 m) (T2.2.1 1 m) (T2.2.1 2 m) (T2.2.1 3 m) (T2.1 1 m) (lrq (T2.1 2 e) (T2.2.2 2 e) (T2.2.1 6 e) a (lowc (T2.1 2 e) (T2.2.1 6 e) a) (T2.2.2 0 m))
      have e00 : T2.2.1 0 m = nI e := by rw [eT2]; simp [mbS, st2, stN, st1]
      have e22 : T2.2.1 2 m = S.2.1 5 e := by rw [eT2]; simp [mbS, st2, stN, st1]
      have e33 : T2.2.1 3 m = S.2.1 3 m := by rw [eT2]; simp [mbS, st2, stN, st1]
      have e44 : T2.1 1 m = 0 := by rw [eT2]; simp [mbS, st2, stN, st1]
      have e55 : T2.2.2 0 m = upd (fl 5 (-1) (S.2.2 0 m)) 0 (S.2.2 2 e (2 * a)) := by rw [eT2]; simp [mbS, st2, stN, st1]
      rw [e00, e11, e22, e33, e44, e55, e1, e2, e6] at hA3
      rw [e00, e11, e22, e33, e44, e55, e1, e2, e6]
      exact hA3
    · exact (hf1.trans (fr_mst rfl rfl)).trans (fr_mst rfl rfl)
  · exact absurd c8 (by decide)
