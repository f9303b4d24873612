/-! resolve, node -/
def umP (u : Int32) : Nat → List Nat
  | 0 => []
  | i + 1 => umP u i ++ if tb u i = true then [2 * i] else []
def rsv (K U : Nat → Int32) : Nat → Nat → List Nat
  | 0, v => if K v = -1 then [] else [v]
  | h + 1, v => if K v = -1 then rsv K U h (v + 2 ^ h) ++ rsv K U h (v - 2 ^ h) else v :: umP (U v) 16
def rs (R : SR) (n : Nat) (F O : Nat → Int32) : SR := ri (ra (ra R 49 F) 50 O) 48 n
theorem sr_ext {A B : SR} (h1 : ∀ f, A.1 f = B.1 f) (h2 : ∀ f, A.2 f = B.2 f) : A = B := Prod.ext (funext h1) (funext h2)
theorem rs_49 (R : SR) (n : Nat) (F O G : Nat → Int32) : ra (rs R n F O) 49 G = rs R n G O := by
  refine sr_ext (fun f => rfl) (fun f => ?_)
  simp only [rs, ra, ri]
  by_cases h : f = 49
  · subst h; simp
  · simp [h]
theorem rs_50 (R : SR) (n : Nat) (F O G : Nat → Int32) : ra (rs R n F O) 50 G = rs R n F G := by
  refine sr_ext (fun f => rfl) (fun f => ?_)
  simp only [rs, ra, ri]
  by_cases h : f = 50
  · subst h; simp
  · simp [h]
theorem rs_48 (R : SR) (n k : Nat) (F O : Nat → Int32) : ri (rs R n F O) 48 k = rs R k F O := by
  refine sr_ext (fun f => ?_) (fun f => rfl)
  simp only [rs, ra, ri]
  by_cases h : f = 48
  · subst h; simp
  · simp [h]
theorem rs_self (R : SR) : rs R (R.1 48) (R.2 49) (R.2 50) = R := by
  refine sr_ext (fun f => ?_) (fun f => ?_)
  · simp only [rs, ra, ri]
    by_cases h : f = 48
    · subst h; simp
    · simp [h]
  · simp only [rs, ra, ri]
    by_cases h : f = 50
    · subst h; simp
    · by_cases h2 : f = 49
      · subst h2; simp
      · simp [h, h2]
theorem rs_0 (R : SR) (n : Nat) (G : Nat → Int32) : ra (ri R 48 n) 50 G = rs R n (R.2 49) G := by
  rw [← rs_self R, rs_48, rs_50, rs_self]
def okO (O : Nat → Int32) (L : List Nat) : Prop := ∀ i v, L[i]? = some v → O i = nI v
theorem okO_l {O : Nat → Int32} {L : List Nat} {v : Nat} (h : okO O (L ++ [v])) : okO O L := fun i w hw => h i w (by
  have hi : i < L.length := by
    by_cases hi : i < L.length
    · exact hi
    · rw [List.getElem?_eq_none (by omega)] at hw; cases hw
  rw [List.getElem?_append_left hi]; exact hw)
theorem okO_t {O : Nat → Int32} {L : List Nat} {v : Nat} (h : okO O (L ++ [v])) : O L.length = nI v := h L.length v (by simp)
theorem okO_s {O : Nat → Int32} {L : List Nat} (h : okO O L) (v n : Nat) (hn : n = L.length) : okO (upd O n (nI v)) (L ++ [v]) := fun i w hw => by
  subst hn
  by_cases hi : i = L.length
  · subst hi
    rw [List.getElem?_append_right (Nat.le_refl _)] at hw
    simp at hw
    simp [upd, hw]
  · have hi2 : i < L.length := by
      by_cases h9 : i < L.length
      · exact h9
      · rw [List.getElem?_eq_none (by simp; omega)] at hw; cases hw
    rw [List.getElem?_append_left hi2] at hw
    simp only [upd, if_neg hi]
    exact h i w hw
def wgt (L : List Nat) : Nat := (L.map (fun v => 2 ^ (hgt v + 1) - 1)).sum
theorem wgt_a (L : List Nat) (v : Nat) : wgt (L ++ [v]) = wgt L + (2 ^ (hgt v + 1) - 1) := by simp [wgt]
theorem wgt_l (L : List Nat) : L.length ≤ wgt L := by
  induction L with
  | nil => exact Nat.le_refl _
  | cons v L ih =>
    have h1 : 2 ≤ 2 ^ (hgt v + 1) := by
      rw [Nat.pow_succ]; have := p2pos (hgt v); omega
    have : wgt (v :: L) = 2 ^ (hgt v + 1) - 1 + wgt L := by simp [wgt]
    rw [this, List.length_cons]; omega
def rem (K U : Nat → Int32) (L : List Nat) : List Nat := L.reverse.flatMap (fun v => rsv K U (hgt v) v)
theorem rem_a (K U : Nat → Int32) (L : List Nat) (v : Nat) : rem K U (L ++ [v]) = rsv K U (hgt v) v ++ rem K U L := by simp [rem]
theorem chd : ∀ v, v < 31 → 0 < hgt v → v + 2 ^ (hgt v - 1) < 31 ∧ 2 ^ (hgt v - 1) ≤ v ∧ hgt (v + 2 ^ (hgt v - 1)) = hgt v - 1 ∧ hgt (v - 2 ^ (hgt v - 1)) = hgt v - 1 := by decide
theorem umP_l (u : Int32) (i : Nat) : (umP u i).length ≤ i := by
  induction i with
  | zero => exact Nat.le_refl _
  | succ i ih =>
    simp only [umP, List.length_append]
    by_cases h : tb u i = true
    · rw [if_pos h]; simp; omega
    · rw [if_neg h]; simp; omega
theorem nI_sub {a b : Nat} (h : b ≤ a) (ha : a < 2147483648) : nI a - nI b = nI (a - b) := by
  have e : nI a = nI (a - b) + nI b := by rw [nI_add, Nat.sub_add_cancel h]
  rw [e, Int32.add_sub_cancel]
theorem nI_pm (n : Nat) : nI (n + 1) + (-1) = nI n := by
  rw [← nI_pred n, Int32.sub_eq_add_neg]
theorem umP_ml (u : Int32) {i j : Nat} (h : i ≤ j) : (umP u i).length ≤ (umP u j).length := by
  induction h with
  | refl => exact Nat.le_refl _
  | step _ ih => exact Nat.le_trans ih (by simp [umP])
set_option maxRecDepth 100000 in
set_option maxHeartbeats 4000000 in
theorem r_resolve (l : Launch) (d : gh_D) (g : gh_H) {y : Nat → Nat} {R : SR} (hR : rR g y R) (e nd : Nat) (he : e < 60) (hn : nd < 31) (hL : (rsv (fun v => R.2 22 (31 * e + v)) (fun v => R.2 23 (31 * e + v)) (hgt nd) nd).length ≤ 32) : gh_C l d mR_resolve (rr 1 0 0) [.ref (y 0), .int (nI e), .int (nI nd)] g (fun v g1 => v = none ∧ ∃ F O : Nat → Int32, rQ g g1 y (rs R (rsv (fun v => R.2 22 (31 * e + v)) (fun v => R.2 23 (31 * e + v)) (hgt nd) nd).length F O) ∧ okO F (rsv (fun v => R.2 22 (31 * e + v)) (fun v => R.2 23 (31 * e + v)) (hgt nd) nd)) := by
  refine gh_of [some (.ref (y 0)), some (.int (nI e)), some (.int (nI nd)), none, none, none, none] (by decide) rfl (Nat.le_of_ble_eq_true rfl) (by simp [Value.category]) (fun z C hQ => ?_)
  show gh_W l d z 0 [some (.ref (y 0)), some (.int (nI e)), some (.int (nI nd)), none, none, none, none] [] g 0 0
  have h0 := rQ.rf hR
  obtain ⟨K, eK⟩ : ∃ K : Nat → Int32, K = fun v => R.2 22 (31 * e + v) := ⟨_, rfl⟩
  obtain ⟨U, eU⟩ : ∃ U : Nat → Int32, U = fun v => R.2 23 (31 * e + v) := ⟨_, rfl⟩
  rw [← eK, ← eU] at hL hQ
  obtain ⟨L, eL⟩ : ∃ L, L = rsv K U (hgt nd) nd := ⟨_, rfl⟩
  rw [← eL] at hL hQ
  have hK : ∀ v, R.2 22 (31 * e + v) = K v := fun v => by rw [eK]
  have hU : ∀ v, R.2 23 (31 * e + v) = U v := fun v => by rw [eU]
  have main : ∀ (n : Nat) (st out : List Nat) (F O : Nat → Int32) (g1 : gh_H) (x4 x5 x6 : Option Value), wgt st ≤ n → n ≤ 31 → (∀ v, v ∈ st → v < 31) → okO F out → okO O st → out ++ rem K U st = L → rQ g g1 y (rs R out.length F O) → gh_W l d z 14 [some (.ref (y 0)), some (.int (nI e)), some (.int (nI nd)), some (.int (nI st.length)), x4, x5, x6] [] g1 0 0 := by
    intro n
    induction n with
    | zero =>
      intro st out F O g1 x4 x5 x6 hw hn31 hv hF hO hL9 h1
      have hs : st = [] := by
        cases st with
        | nil => rfl
        | cons a t => have := wgt_l (a :: t); simp at this; omega
      subst hs
      have e1 : out = L := by simpa [rem] using hL9
      refine gh_iload_n C dR_resolve_14 rfl ?_
      refine gh_if_le C 186 dR_resolve_15 (by decide) (fun c15 => ?_) (fun c15 => ?_)
      ·
        refine gh_vret C hQ rfl dR_resolve_186 ?_
        exact ⟨rfl, F, O, by rw [← e1]; exact h1, by rw [← e1]; exact hF⟩
      · exact absurd (by decide) c15
    | succ n ih =>
      intro st out F O g1 x4 x5 x6 hw hn31 hv hF hO hL9 h1
      rcases List.eq_nil_or_concat st with hs | ⟨t, v, hs⟩
      · exact ih st out F O g1 x4 x5 x6 (by rw [hs]; simp [wgt]) (by omega) hv hF hO hL9 h1
      rw [List.concat_eq_append] at hs
      subst hs
      have hvv : v < 31 := hv v (by simp)
      have hvt : ∀ w, w ∈ t → w < 31 := fun w hw9 => hv w (by simp [hw9])
      have wl := wgt_l (t ++ [v])
      rw [wgt_a] at hw wl
      have wlt := wgt_l t
      have hp1 : 2 ^ (hgt v + 1) = 2 * 2 ^ hgt v := by rw [Nat.pow_succ]; omega
      have hp2 := p2pos (hgt v)
      have h4 := (hgt_le v hvv).1
      have etl : (t ++ [v]).length = t.length + 1 := by simp
      rw [rem_a] at hL9
      rw [etl] at wl
      have hO1 := okO_t hO
      have hO2 := okO_l hO
      have hLl := congrArg List.length hL9
      simp only [List.length_append] at hLl
      have lenz : ¬ K v = -1 → out.length + 1 ≤ 32 ∧ (0 < hgt v → rsv K U (hgt v) v = v :: umP (U v) 16) ∧ (hgt v = 0 → rsv K U (hgt v) v = [v]) := fun hk => by
        have e1 : (0 < hgt v → rsv K U (hgt v) v = v :: umP (U v) 16) ∧ (hgt v = 0 → rsv K U (hgt v) v = [v]) := by
          constructor
          · intro hp
            obtain ⟨h9, e9⟩ : ∃ h9, hgt v = h9 + 1 := ⟨hgt v - 1, by omega⟩
            rw [e9]; simp only [rsv, if_neg hk]
          · intro hp
            rw [hp]; simp only [rsv, if_neg hk]
        refine ⟨?_, e1⟩
        by_cases hp : 0 < hgt v
        · have := congrArg List.length (e1.1 hp)
          rw [List.length_cons] at this
          omega
        · have := congrArg List.length (e1.2 (by omega))
          simp at this
          omega
      have loopI : ∀ (c i : Nat) (F : Nat → Int32) (g1 : gh_H), ¬ K v = -1 → 0 < hgt v → i + c = 16 → okO F (out ++ [v] ++ umP (U v) i) → rQ g g1 y (rs R (out ++ [v] ++ umP (U v) i).length F O) → gh_W l d z 76 [some (.ref (y 0)), some (.int (nI e)), some (.int (nI nd)), some (.int (nI t.length)), some (.int (nI v)), some (.int (nI (hgt v))), some (.int (nI i))] [] g1 0 0 := by
        intro c
        induction c with
        | zero =>
          intro i F g1 hk hp hi hF1 h1
          have hi : i = 16 := by omega
          subst hi
          have eq9 : out ++ [v] ++ umP (U v) 16 ++ rem K U t = L := by
            rw [← hL9, (lenz hk).2.1 hp]; simp
          refine gh_iload C dR_resolve_76 rfl ?_
          refine gh_bipush C 16 dR_resolve_78 (by decide) ?_
          refine gh_icmp_ge C 140 dR_resolve_80 (by decide) (fun c80 => ?_) (fun c80 => ?_)
          ·
            refine gh_goto C 183 dR_resolve_140 (by decide) ?_
            refine gh_goto C 14 dR_resolve_183 (by decide) ?_
            exact ih t _ F O _ _ _ _ (by omega) (by omega) hvt hF1 hO2 eq9 h1
          · exact absurd (nI_le (Nat.le_refl 16) (by omega)) c80
        | succ c ihI =>
          intro i F g1 hk hp hi hF1 h1
          have hi16 : i < 16 := by omega
          have hln : (out ++ [v] ++ umP (U v) i).length + (if tb (U v) i = true then 1 else 0) ≤ 32 := by
            have h7 := umP_ml (U v) (show i + 1 ≤ 16 by omega)
            have h8 := congrArg List.length ((lenz hk).2.1 hp)
            rw [show umP (U v) (i + 1) = umP (U v) i ++ (if tb (U v) i = true then [2 * i] else []) from rfl] at h7
            simp only [List.length_append, List.length_cons, List.length_nil] at h7 h8 ⊢
            by_cases hb : tb (U v) i = true
            · rw [if_pos hb] at h7 ⊢; simp at h7; omega
            · rw [if_neg hb]; omega
          have inc : ∀ (F1 : Nat → Int32) (g2 : gh_H), okO F1 (out ++ [v] ++ umP (U v) (i + 1)) → rQ g g2 y (rs R (out ++ [v] ++ umP (U v) (i + 1)).length F1 O) → gh_W l d z 134 [some (.ref (y 0)), some (.int (nI e)), some (.int (nI nd)), some (.int (nI t.length)), some (.int (nI v)), some (.int (nI (hgt v))), some (.int (nI i))] [] g2 0 0 := by
            intro F1 g2 k1 k2
            refine gh_iinc C (nI (i + 1)) [some (.ref (y 0)), some (.int (nI e)), some (.int (nI nd)), some (.int (nI t.length)), some (.int (nI v)), some (.int (nI (hgt v))), some (.int (nI (i + 1)))] dR_resolve_134 rfl (gh_inc i) rfl ?_
            refine gh_goto C 76 dR_resolve_137 (by decide) ?_
            exact ihI (i + 1) F1 g2 hk hp (by omega) k1 k2
          refine gh_iload C dR_resolve_76 rfl ?_
          refine gh_bipush C 16 dR_resolve_78 (by decide) ?_
          refine gh_icmp_ge C 140 dR_resolve_80 (by decide) (fun c80 => ?_) (fun c80 => ?_)
          · exact absurd c80 (nI_ge hi16 (by decide))
          ·
            refine gh_iload C dR_resolve_83 rfl ?_
            refine gh_if_le C 140 dR_resolve_85 (by decide) (fun c85 => ?_) (fun c85 => ?_)
            · exact absurd c85 (Int32.not_le.mpr (nI_lt (a := 0) hp (by omega)))
            ·
              refine gh_aload_n C dR_resolve_88 rfl ?_
              refine rw_get C h1 fR_68 rfl dR_resolve_89 ?_
              refine gh_bipush C 31 dR_resolve_92 (by decide) ?_
              refine gh_iload_n C dR_resolve_94 rfl ?_
              refine gh_imul C dR_resolve_95 ?_
              refine gh_ti (nI (31 * e)) (pk_mul 31 e) ?_
              refine gh_iload C dR_resolve_96 rfl ?_
              refine gh_iadd C dR_resolve_98 ?_
              refine gh_ti (nI (31 * e + v)) (nI_add (31 * e) v) ?_
              refine rw_ild C h1 23 1860 ⟨rfl, rfl, rfl, by decide⟩ (31 * e + v) rfl (by omega) dR_resolve_99 ?_
              refine gh_ti (U v) (hU v) ?_
              refine gh_iload C dR_resolve_100 rfl ?_
              refine gh_ishr C dR_resolve_102 ?_
              refine gh_iconst C 1 dR_resolve_103 (by decide) ?_
              refine gh_iand C dR_resolve_104 ?_
              refine gh_ti (if tb (U v) i = true then 1 else 0) (shr_bit _ (by omega)) ?_
              refine gh_if_ne C 111 dR_resolve_105 (by decide) (fun c105 => ?_) (fun c105 => ?_)
              ·
                have hb : tb (U v) i = true := by
                  by_cases hb : tb (U v) i = true
                  · exact hb
                  · rw [if_neg hb] at c105; exact absurd rfl c105
                have e9 : out ++ [v] ++ umP (U v) (i + 1) = out ++ [v] ++ umP (U v) i ++ [2 * i] := by simp [umP, hb]
                rw [if_pos hb] at hln
                refine gh_aload_n C dR_resolve_111 rfl ?_
                refine rw_get C h1 fR_134 rfl dR_resolve_112 ?_
                refine gh_aload_n C dR_resolve_115 rfl ?_
                refine rw_get C h1 fR_176 rfl dR_resolve_116 ?_
                refine gh_ti (nI ((out ++ [v] ++ umP (U v) i).length)) rfl ?_
                refine gh_iconst C 2 dR_resolve_119 (by decide) ?_
                refine gh_iload C dR_resolve_120 rfl ?_
                refine gh_imul C dR_resolve_122 ?_
                refine gh_ti (nI (2 * i)) (pk_mul 2 i) ?_
                refine rw_ist C h1 49 32 ⟨rfl, rfl, rfl, by decide⟩ ((out ++ [v] ++ umP (U v) i).length) rfl (by omega) dR_resolve_123 (fun g101 h101 => ?_)
                have h101 : rQ g g101 y (ra (rs R (out ++ [v] ++ umP (U v) i).length F O) 49 (upd ((rs R (out ++ [v] ++ umP (U v) i).length F O).2 49) ((out ++ [v] ++ umP (U v) i).length) (nI (2 * i)))) := h101
                refine gh_aload_n C dR_resolve_124 rfl ?_
                refine gh_dup C dR_resolve_125 rfl ?_
                refine rw_get C h101 fR_176 rfl dR_resolve_126 ?_
                refine gh_ti (nI ((out ++ [v] ++ umP (U v) i).length)) rfl ?_
                refine gh_iconst C 1 dR_resolve_129 (by decide) ?_
                refine gh_iadd C dR_resolve_130 ?_
                refine gh_ti (nI ((out ++ [v] ++ umP (U v) i).length + 1)) (nI_add ((out ++ [v] ++ umP (U v) i).length) 1) ?_
                refine rw_put C h101 ((out ++ [v] ++ umP (U v) i).length + 1) rfl pR_176 (by decide) rfl (by decide) (fun _ => rfl) (fun _ => rfl) dR_resolve_131 (fun g102 h102 => ?_)
                refine inc _ _ (by rw [e9]; exact okO_s hF1 (2 * i) _ rfl) (by rw [e9, List.length_append, ← rs_48 _ ((out ++ [v] ++ umP (U v) i).length), ← rs_49 R ((out ++ [v] ++ umP (U v) i).length) F]; exact h102)
              · refine gh_goto C 134 dR_resolve_108 (by decide) ?_
                have hb : ¬ tb (U v) i = true := fun hb => by rw [if_pos hb] at c105; exact absurd c105 (by decide)
                have e9 : umP (U v) (i + 1) = umP (U v) i := by simp [umP, hb]
                exact inc F _ (by rw [e9]; exact hF1) (by rw [e9]; exact h1)
      have p0 : ∀ (n : Nat), nI n = nI n := fun _ => rfl
      refine gh_iload_n C dR_resolve_14 rfl ?_
      refine gh_if_le C 186 dR_resolve_15 (by decide) (fun c15 => ?_) (fun c15 => ?_)
      · exact absurd c15 (by rw [etl]; exact Int32.not_le.mpr (nI_lt (a := 0) (by omega) (by omega)))
      ·
        refine gh_iinc C (nI t.length) [some (.ref (y 0)), some (.int (nI e)), some (.int (nI nd)), some (.int (nI t.length)), x4, x5, x6] dR_resolve_18 rfl (by rw [etl]; exact nI_pm t.length) rfl ?_
        refine gh_aload_n C dR_resolve_21 rfl ?_
        refine rw_get C h1 fR_137 rfl dR_resolve_22 ?_
        refine gh_iload_n C dR_resolve_25 rfl ?_
        refine rw_ild C h1 50 32 ⟨rfl, rfl, rfl, by decide⟩ (t.length) rfl (by omega) dR_resolve_26 ?_
        refine gh_ti (nI v) hO1 ?_
        refine gh_istore C [some (.ref (y 0)), some (.int (nI e)), some (.int (nI nd)), some (.int (nI t.length)), some (.int (nI v)), x5, x6] dR_resolve_27 rfl (Nat.le_of_ble_eq_true rfl) ?_
        refine gh_iload C dR_resolve_29 rfl ?_
        refine gh_callS C [.int (nI v)] (r_height l d _ v hvv) lR_179 wR_height sR_height rfl rfl (Nat.le_of_ble_eq_true rfl) ⟨Nat.le_of_ble_eq_true rfl, Nat.le_of_ble_eq_true rfl⟩ (Nat.le_of_ble_eq_true rfl) (Nat.le_of_ble_eq_true rfl) dR_resolve_31 (fun v101 g101 k101 => ?_)
        obtain ⟨rfl, e101⟩ := k101
        subst g101
        refine gh_istore C [some (.ref (y 0)), some (.int (nI e)), some (.int (nI nd)), some (.int (nI t.length)), some (.int (nI v)), some (.int (nI (hgt v))), x6] dR_resolve_34 rfl (Nat.le_of_ble_eq_true rfl) ?_
        refine gh_aload_n C dR_resolve_36 rfl ?_
        refine rw_get C h1 fR_65 rfl dR_resolve_37 ?_
        refine gh_bipush C 31 dR_resolve_40 (by decide) ?_
        refine gh_iload_n C dR_resolve_42 rfl ?_
        refine gh_imul C dR_resolve_43 ?_
        refine gh_ti (nI (31 * e)) (pk_mul 31 e) ?_
        refine gh_iload C dR_resolve_44 rfl ?_
        refine gh_iadd C dR_resolve_46 ?_
        refine gh_ti (nI (31 * e + v)) (nI_add (31 * e) v) ?_
        refine rw_ild C h1 22 1860 ⟨rfl, rfl, rfl, by decide⟩ (31 * e + v) rfl (by omega) dR_resolve_47 ?_
        refine gh_ti (K v) (hK v) ?_
        refine gh_iconst C (-1) dR_resolve_48 (by decide) ?_
        refine gh_icmp_eq C 143 dR_resolve_49 (by decide) (fun c49 => ?_) (fun c49 => ?_)
        ·
          refine gh_iload C dR_resolve_143 rfl ?_
          refine gh_if_le C 183 dR_resolve_145 (by decide) (fun c145 => ?_) (fun c145 => ?_)
          · have hz0 : hgt v = 0 := by
              by_cases h9 : hgt v = 0
              · exact h9
              · exact absurd c145 (Int32.not_le.mpr (nI_lt (a := 0) (by omega) (by omega)))
            have er : rsv K U (hgt v) v = [] := by rw [hz0]; simp only [rsv, if_pos c49]
            rw [er, List.nil_append] at hL9
            refine gh_goto C 14 dR_resolve_183 (by decide) ?_
            exact ih t _ F O _ _ _ _ (by omega) (by omega) hvt hF hO2 hL9 h1
          ·
            have hp : 0 < hgt v := by
              by_cases h9 : hgt v = 0
              · exact absurd (by rw [h9]; decide) c145
              · omega
            obtain ⟨q1, q2, q3, q4⟩ := chd v hvv hp
            obtain ⟨hh, eh⟩ : ∃ hh, hh = hgt v - 1 := ⟨_, rfl⟩
            have eh1 : hgt v = hh + 1 := by omega
            rw [← eh] at q1 q2 q3 q4
            have er : rsv K U (hgt v) v = rsv K U hh (v + 2 ^ hh) ++ rsv K U hh (v - 2 ^ hh) := by rw [eh1]; simp only [rsv, if_pos c49]
            have hp3 : 2 ^ (hh + 1) = 2 * 2 ^ hh := by rw [Nat.pow_succ]; omega
            have hph := p2pos hh
            have hp9 : 2 ^ hgt v = 2 * 2 ^ hh := by rw [eh1]; exact hp3
            refine gh_aload_n C dR_resolve_148 rfl ?_
            refine rw_get C h1 fR_137 rfl dR_resolve_149 ?_
            refine gh_iload_n C dR_resolve_152 rfl ?_
            refine gh_iload C dR_resolve_153 rfl ?_
            refine gh_iconst C 1 dR_resolve_155 (by decide) ?_
            refine gh_iload C dR_resolve_156 rfl ?_
            refine gh_iconst C 1 dR_resolve_158 (by decide) ?_
            refine gh_isub C dR_resolve_159 ?_
            refine gh_ti (nI hh) (by rw [eh1]; exact nI_pred hh) ?_
            refine gh_ishl C dR_resolve_160 ?_
            refine gh_ti (nI (2 ^ hh)) (sh1h hh (by omega)) ?_
            refine gh_isub C dR_resolve_161 ?_
            refine gh_ti (nI (v - 2 ^ hh)) (nI_sub q2 (by omega)) ?_
            refine rw_ist C h1 50 32 ⟨rfl, rfl, rfl, by decide⟩ (t.length) rfl (by omega) dR_resolve_162 (fun g102 h102 => ?_)
            have h102 : rQ g g102 y (ra (rs R out.length F O) 50 (upd ((rs R out.length F O).2 50) t.length (nI (v - 2 ^ hh)))) := h102
            refine gh_aload_n C dR_resolve_163 rfl ?_
            refine rw_get C h102 fR_137 rfl dR_resolve_164 ?_
            refine gh_iload_n C dR_resolve_167 rfl ?_
            refine gh_iconst C 1 dR_resolve_168 (by decide) ?_
            refine gh_iadd C dR_resolve_169 ?_
            refine gh_ti (nI (t.length + 1)) (nI_add t.length 1) ?_
            refine gh_iload C dR_resolve_170 rfl ?_
            refine gh_iconst C 1 dR_resolve_172 (by decide) ?_
            refine gh_iload C dR_resolve_173 rfl ?_
            refine gh_iconst C 1 dR_resolve_175 (by decide) ?_
            refine gh_isub C dR_resolve_176 ?_
            refine gh_ti (nI hh) (by rw [eh1]; exact nI_pred hh) ?_
            refine gh_ishl C dR_resolve_177 ?_
            refine gh_ti (nI (2 ^ hh)) (sh1h hh (by omega)) ?_
            refine gh_iadd C dR_resolve_178 ?_
            refine gh_ti (nI (v + 2 ^ hh)) (nI_add v (2 ^ hh)) ?_
            refine rw_ist C h102 50 32 ⟨rfl, rfl, rfl, by decide⟩ (t.length + 1) rfl (by omega) dR_resolve_179 (fun g103 h103 => ?_)
            have h103 : rQ g g103 y (ra (ra (rs R out.length F O) 50 (upd ((rs R out.length F O).2 50) t.length (nI (v - 2 ^ hh)))) 50 (upd (upd ((rs R out.length F O).2 50) t.length (nI (v - 2 ^ hh))) (t.length + 1) (nI (v + 2 ^ hh)))) := h103
            refine gh_iinc C (nI (t ++ [v - 2 ^ hh] ++ [v + 2 ^ hh]).length) [some (.ref (y 0)), some (.int (nI e)), some (.int (nI nd)), some (.int (nI (t ++ [v - 2 ^ hh] ++ [v + 2 ^ hh]).length)), some (.int (nI v)), some (.int (nI (hgt v))), x6] dR_resolve_180 rfl (by rw [show (t ++ [v - 2 ^ hh] ++ [v + 2 ^ hh]).length = t.length + 2 by simp]; exact nI_add t.length 2) rfl ?_
            refine gh_goto C 14 dR_resolve_183 (by decide) ?_
            refine ih (t ++ [v - 2 ^ hh] ++ [v + 2 ^ hh]) out F _ _ _ _ _ ?_ (by omega) ?_ hF (okO_s (okO_s hO2 (v - 2 ^ hh) _ rfl) (v + 2 ^ hh) (t.length + 1) (by simp)) ?_ (by have h9 := h103; rw [ra_ra, rs_50] at h9; exact h9)
            · rw [wgt_a, wgt_a, q3, q4]; omega
            · intro w hw9
              rcases List.mem_append.mp hw9 with h9 | h9
              · rcases List.mem_append.mp h9 with h9 | h9
                · exact hvt w h9
                · have : w = v - 2 ^ hh := by simpa using h9
                  omega
              · have : w = v + 2 ^ hh := by simpa using h9
                omega
            · rw [rem_a, rem_a, q3, q4, ← List.append_assoc (rsv K U hh (v + 2 ^ hh)), ← er]; exact hL9
        ·
          have hl := lenz c49
          refine gh_aload_n C dR_resolve_52 rfl ?_
          refine rw_get C h1 fR_134 rfl dR_resolve_53 ?_
          refine gh_aload_n C dR_resolve_56 rfl ?_
          refine rw_get C h1 fR_176 rfl dR_resolve_57 ?_
          refine gh_ti (nI out.length) rfl ?_
          refine gh_iload C dR_resolve_60 rfl ?_
          refine rw_ist C h1 49 32 ⟨rfl, rfl, rfl, by decide⟩ (out.length) rfl (by omega) dR_resolve_62 (fun g104 h104 => ?_)
          have h104 : rQ g g104 y (ra (rs R out.length F O) 49 (upd ((rs R out.length F O).2 49) out.length (nI v))) := h104
          refine gh_aload_n C dR_resolve_63 rfl ?_
          refine gh_dup C dR_resolve_64 rfl ?_
          refine rw_get C h104 fR_176 rfl dR_resolve_65 ?_
          refine gh_ti (nI out.length) rfl ?_
          refine gh_iconst C 1 dR_resolve_68 (by decide) ?_
          refine gh_iadd C dR_resolve_69 ?_
          refine gh_ti (nI (out.length + 1)) (nI_add out.length 1) ?_
          refine rw_put C h104 (out.length + 1) rfl pR_176 (by decide) rfl (by decide) (fun _ => rfl) (fun _ => rfl) dR_resolve_70 (fun g105 h105 => ?_)
          refine gh_iconst C 0 dR_resolve_73 (by decide) ?_
          refine gh_istore C [some (.ref (y 0)), some (.int (nI e)), some (.int (nI nd)), some (.int (nI t.length)), some (.int (nI v)), some (.int (nI (hgt v))), some (.int 0)] dR_resolve_74 rfl (Nat.le_of_ble_eq_true rfl) ?_
          have hF2 := okO_s hF v out.length rfl
          have eo : out.length + 1 = (out ++ [v]).length := by simp
          have h9 := h105
          rw [rs_49, rs_48, eo, show (rs R out.length F O).2 49 = F from rfl] at h9
          by_cases hp : 0 < hgt v
          · exact loopI 16 0 _ _ c49 hp (by omega) (by simpa [umP] using hF2) (by simpa [umP] using h9)
          have hz0 : hgt v = 0 := by omega
          have eq9 : out ++ [v] ++ rem K U t = L := by rw [← hL9, hl.2.2 hz0]; simp
          rw [hz0]
          refine gh_iload C dR_resolve_76 rfl ?_
          refine gh_bipush C 16 dR_resolve_78 (by decide) ?_
          refine gh_icmp_ge C 140 dR_resolve_80 (by decide) (fun c80 => absurd c80 (by decide)) (fun c80 => ?_)
          refine gh_iload C dR_resolve_83 rfl ?_
          refine gh_if_le C 140 dR_resolve_85 (by decide) (fun c85 => ?_) (fun c85 => absurd (by decide) c85)
          refine gh_goto C 183 dR_resolve_140 (by decide) ?_
          refine gh_goto C 14 dR_resolve_183 (by decide) ?_
          exact ih t _ _ O _ _ _ _ (by omega) (by omega) hvt hF2 hO2 eq9 h9
  refine gh_aload_n C dR_resolve_0 rfl ?_
  refine gh_iconst C 0 dR_resolve_1 (by decide) ?_
  refine rw_put C h0 (0) rfl pR_176 (by decide) rfl (by decide) (fun _ => rfl) (fun _ => rfl) dR_resolve_2 (fun g101 h101 => ?_)
  refine gh_iconst C 1 dR_resolve_5 (by decide) ?_
  refine gh_istore_n C [some (.ref (y 0)), some (.int (nI e)), some (.int (nI nd)), some (.int 1), none, none, none] dR_resolve_6 rfl (Nat.le_of_ble_eq_true rfl) ?_
  refine gh_aload_n C dR_resolve_7 rfl ?_
  refine rw_get C h101 fR_137 rfl dR_resolve_8 ?_
  refine gh_iconst C 0 dR_resolve_11 (by decide) ?_
  refine gh_iload_n C dR_resolve_12 rfl ?_
  refine rw_ist C h101 50 32 ⟨rfl, rfl, rfl, by decide⟩ (0) rfl (by omega) dR_resolve_13 (fun g102 h102 => ?_)
  have h102 : rQ g g102 y (ra (ri R 48 (0)) 50 (upd (R.2 50) 0 (nI nd))) := h102
  have hw : wgt [nd] ≤ 31 := by
    have h9 : ∀ v, v < 31 → 2 ^ (hgt v + 1) - 1 ≤ 31 := by decide
    simpa [wgt] using h9 nd hn
  refine main 31 [nd] [] (R.2 49) (upd (R.2 50) 0 (nI nd)) _ _ _ _ hw (Nat.le_refl _) (fun v hv => by rw [show v = nd by simpa using hv]; exact hn) (fun i v h => by simp at h) ?_ ?_ ?_
  · have := okO_s (O := R.2 50) (L := []) (fun i v h => by simp at h) nd 0 rfl
    exact this
  · rw [eL]; simp [rem]
  · rw [show ([] : List Nat).length = 0 from rfl, ← rs_0]; exact h102
