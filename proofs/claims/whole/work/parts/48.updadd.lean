/-! the UPDATEs and the ADDs -/
def upD (S : SC) (e a : Nat) (key : Int32) : SC := st1 (gvS (trS S e (bl a (S.1 2 e + 1) (-1) (S.2.2 2 e)) (bl a (S.1 2 e + 1) (-1) (S.2.2 3 e)) (bl a (S.1 2 e + 1) 0 (S.2.2 4 e))) e (2 * a) key (nI e)) 8 e (S.2.1 8 e ||| bitN a)
abbrev upQ (S : SC) (e i : Nat) : Prop := S.2.1 17 i = 2 ∧ S.2.1 18 i ≠ S.2.1 4 e ∧ S.2.1 7 e &&& bitN (S.2.1 18 i).toNatClampNeg = 0
def upL (S : SC) (e : Nat) : Nat → SC
  | 0 => S
  | i + 1 => if upQ (upL S e i) e i then upD (upL S e i) e ((upL S e i).2.1 18 i).toNatClampNeg ((upL S e i).2.1 19 i) else upL S e i
def uq (S S1 : SC) : Prop := S1.1 = S.1 ∧ (∀ c, c ≠ 8 → S1.2.1 c = S.2.1 c) ∧ ∀ c, c < 2 → S1.2.2 c = S.2.2 c
theorem uq_upD (S : SC) (e a : Nat) (key : Int32) : uq S (upD S e a key) := ⟨rfl, fun c h => by
  funext i
  simp [upD, gvS, trS, st1, st2, h], fun c h => by
  funext i
  simp [upD, gvS, trS, st1, st2, show c ≠ 2 by omega, show c ≠ 3 by omega, show c ≠ 4 by omega]⟩
theorem uq_upL (S : SC) (e : Nat) : ∀ i, uq S (upL S e i)
  | 0 => ⟨rfl, fun _ _ => rfl, fun _ _ => rfl⟩
  | i + 1 => by
    have h := uq_upL S e i
    unfold upL
    split
    · have h2 := uq_upD (upL S e i) e ((upL S e i).2.1 18 i).toNatClampNeg ((upL S e i).2.1 19 i)
      exact ⟨h2.1.trans h.1, fun c h3 => (h2.2.1 c h3).trans (h.2.1 c h3), fun c h3 => (h2.2.2 c h3).trans (h.2.2 c h3)⟩
    · exact h
theorem leaf_tw {D a : Nat} (h : a < 2 ^ D) : 2 * a < tW D := by
  unfold tW
  have : 2 ^ (D + 1) = 2 * 2 ^ D := by rw [Nat.pow_succ]; omega
  omega
set_option maxRecDepth 100000 in
set_option maxHeartbeats 4000000 in
theorem c_doUpdates (l : Launch) (d : gh_D) (g : gh_H) {Z : ZC} {S : SC} {n : Nat} (hA : cA g Z S n) (e : Nat) (he : e < n) (hQ20 : sQ S ≤ 20) (hab : ∀ i, i < sQ S → S.2.1 17 i = 2 → ∃ a, a < 16 ∧ S.2.1 18 i = nI a ∧ (S.2.1 18 i ≠ S.2.1 4 e → S.2.1 7 e &&& bitN a = 0 → a < 2 ^ S.1 2 e)) : gh_C l d mG_doUpdates (rr 4 0 0) [.ref (Z 1 0), .ref (Z 12 e)] g (fun v g1 => v = none ∧ cA g1 Z (upL S e (sQ S)) n ∧ fr kA g g1) := by
  refine gh_of [some (.ref (Z 1 0)), some (.ref (Z 12 e)), none, none] (by decide) rfl (Nat.le_of_ble_eq_true rfl) (by simp [Value.category]) (fun z C hQ => ?_)
  show gh_W l d z 0 [some (.ref (Z 1 0)), some (.ref (Z 12 e)), none, none] [] g 0 0
  have loop : ∀ (c i : Nat) (g1 : gh_H) (y3 : Option Value), i + c = sQ S → cA g1 Z (upL S e i) n → fr kA g g1 → gh_W l d z 2 [some (.ref (Z 1 0)), some (.ref (Z 12 e)), some (.int (nI i)), y3] [] g1 0 0 := by
    intro c
    induction c with
    | zero =>
      intro i g1 y3 hi hA1 hf1
      have hi : i = sQ S := by omega
      have hrq := uq_upL S e i
      have eQ : sQ (upL S e i) = sQ S := by unfold sQ; rw [hrq.1]
      subst hi
      refine gh_iload_n C dG_doUpdates_2 rfl ?_
      refine gh_aload_n C dG_doUpdates_3 rfl ?_
      refine gh_get C fG_152 hA1.1 rfl dG_doUpdates_4 ?_
      refine gh_icmp_ge C 106 dG_doUpdates_7 (by decide) (fun c7 => ?_) (fun c7 => ?_)
      ·
        refine gh_vret C hQ rfl dG_doUpdates_106 ?_
        exact ⟨rfl, hA1, hf1⟩
      · exact absurd (nI_le (by rw [eQ]; exact Nat.le_refl _) (by omega)) c7
    | succ c ih =>
      intro i g1 y3 hi hA1 hf1
      have hlt0 : i < sQ S := by omega
      have hrq := uq_upL S e i
      have eQ : sQ (upL S e i) = sQ S := by unfold sQ; rw [hrq.1]
      have eD : (upL S e i).1 2 e = S.1 2 e := by rw [hrq.1]
      have e17 : (upL S e i).2.1 17 = S.2.1 17 := hrq.2.1 17 (by decide)
      have e18 : (upL S e i).2.1 18 = S.2.1 18 := hrq.2.1 18 (by decide)
      have e4 : (upL S e i).2.1 4 = S.2.1 4 := hrq.2.1 4 (by decide)
      have e7 : (upL S e i).2.1 7 = S.2.1 7 := hrq.2.1 7 (by decide)
      have eN : upL S e (i + 1) = if upQ (upL S e i) e i then upD (upL S e i) e ((upL S e i).2.1 18 i).toNatClampNeg ((upL S e i).2.1 19 i) else (upL S e i) := rfl
      have inc : ∀ (g2 : gh_H) (y3 : Option Value), cA g2 Z (upL S e (i + 1)) n → fr kA g g2 → gh_W l d z 100 [some (.ref (Z 1 0)), some (.ref (Z 12 e)), some (.int (nI i)), y3] [] g2 0 0 := by
        intro g2 y3 hA2 hf2
        refine gh_iinc C (nI (i + 1)) [some (.ref (Z 1 0)), some (.ref (Z 12 e)), some (.int (nI (i + 1))), y3] dG_doUpdates_100 rfl (gh_inc i) rfl ?_
        refine gh_goto C 2 dG_doUpdates_103 (by decide) ?_
        exact ih (i + 1) g2 _ (by omega) hA2 hf2
      obtain ⟨T1, eT1⟩ : ∃ T1, T1 = (upL S e i) := ⟨_, rfl⟩
      rw [← eT1] at hA1 eQ eD e17 e18 e4 e7 eN
      have hlt : i < sQ T1 := by omega
      obtain ⟨qp, yp, hqp, hqp2⟩ := id hA1.2.2.2.2.2.1
      have hw := hA1.2.2.2.1.2 e he
      refine gh_iload_n C dG_doUpdates_2 rfl ?_
      refine gh_aload_n C dG_doUpdates_3 rfl ?_
      refine gh_get C fG_152 hA1.1 rfl dG_doUpdates_4 ?_
      refine gh_icmp_ge C 106 dG_doUpdates_7 (by decide) (fun c7 => ?_) (fun c7 => ?_)
      · exact absurd c7 (show ¬ nI (sQ T1) ≤ nI i from nI_ge (by omega) (by omega))
      ·
        refine gh_aload_n C dG_doUpdates_10 rfl ?_
        refine gh_get C fG_36 hA1.1 rfl dG_doUpdates_11 ?_
        refine gh_iload_n C dG_doUpdates_14 rfl ?_
        refine gh_aaldN C (i) hqp rfl rfl ⟨by omega, by decide⟩ dG_doUpdates_15 ?_
        refine gh_tr (some (yp i)) (hqp2 i hlt).1 ?_
        refine gh_astore_n C [some (.ref (Z 1 0)), some (.ref (Z 12 e)), some (.int (nI i)), some (.ref (yp i))] dG_doUpdates_16 rfl (Nat.le_of_ble_eq_true rfl) ?_
        refine gh_aload_n C dG_doUpdates_17 rfl ?_
        refine gh_get C fG_227 (hqp2 i hlt).2 rfl dG_doUpdates_18 ?_
        refine gh_iconst C 2 dG_doUpdates_21 (by decide) ?_
        refine gh_icmp_ne C 100 dG_doUpdates_22 (by decide) (fun c22 => ?_) (fun c22 => ?_)
        · have ez : upL S e (i + 1) = T1 := by rw [eN]; exact if_neg (fun h9 => c22 h9.1)
          exact inc _ _ (by rw [ez]; exact hA1) hf1
        ·
          obtain ⟨a, ha, hai, haD0⟩ := hab i hlt0 (by rw [← e17]; exact c22)
          have ha1 : T1.2.1 18 i = nI a := by rw [e18]; exact hai
          have hcl : (T1.2.1 18 i).toNatClampNeg = a := by rw [ha1]; exact nI_clamp (by omega)
          refine gh_aload_n C dG_doUpdates_25 rfl ?_
          refine gh_get C fG_230 (hqp2 i hlt).2 rfl dG_doUpdates_26 ?_
          refine gh_aload_n C dG_doUpdates_29 rfl ?_
          refine gh_get C fG_215 hw.1 rfl dG_doUpdates_30 ?_
          refine gh_icmp_eq C 100 dG_doUpdates_33 (by decide) (fun c33 => ?_) (fun c33 => ?_)
          · have ez : upL S e (i + 1) = T1 := by rw [eN]; exact if_neg (fun h9 => h9.2.1 c33)
            exact inc _ _ (by rw [ez]; exact hA1) hf1
          ·
            refine gh_aload_n C dG_doUpdates_36 rfl ?_
            refine gh_get C fG_132 hw.1 rfl dG_doUpdates_37 ?_
            refine gh_aload_n C dG_doUpdates_40 rfl ?_
            refine gh_get C fG_230 (hqp2 i hlt).2 rfl dG_doUpdates_41 ?_
            refine gh_ti (nI a) ha1 ?_
            refine gh_callS C [.int (nI a)] (c_bit l d _ (nI a)) lG_239 wG_bit sG_bit rfl rfl (Nat.le_of_ble_eq_true rfl) ⟨Nat.le_of_ble_eq_true rfl, Nat.le_of_ble_eq_true rfl⟩ (Nat.le_of_ble_eq_true rfl) (Nat.le_of_ble_eq_true rfl) dG_doUpdates_44 (fun v44 g44 h44 => ?_)
            obtain ⟨rfl, rfl⟩ := h44
            refine gh_iand C dG_doUpdates_47 ?_
            refine gh_if_ne C 100 dG_doUpdates_48 (by decide) (fun c48 => ?_) (fun c48 => ?_)
            · have ez : upL S e (i + 1) = T1 := by rw [eN]; exact if_neg (fun h9 => absurd (show T1.2.1 7 e &&& bitN a = 0 by rw [← hcl]; exact h9.2.2) c48)
              exact inc _ _ (by rw [ez]; exact hA1) hf1
            ·
              have haD : a < 2 ^ T1.1 2 e := by rw [eD]; exact haD0 (by rw [← e18, ← e4]; exact c33) (by rw [← e7]; exact c48)
              have ez : upL S e (i + 1) = upD T1 e a (T1.2.1 19 i) := by rw [eN, if_pos (show upQ T1 e i from ⟨c22, c33, by rw [hcl]; exact c48⟩), hcl]
              refine gh_aload_n C dG_doUpdates_51 rfl ?_
              refine gh_get C fG_60 hw.1 rfl dG_doUpdates_52 ?_
              refine gh_aload_n C dG_doUpdates_55 rfl ?_
              refine gh_get C fG_230 (hqp2 i hlt).2 rfl dG_doUpdates_56 ?_
              refine gh_ti (nI a) ha1 ?_
              refine gh_callV C [.int (nI a)] (c_blankPath l d _ hw.2 a haD) lG_236 wT_blankLeafAndPath vT_blankLeafAndPath hw.2.1 rfl rfl rfl (Nat.le_of_ble_eq_true rfl) ⟨Nat.le_of_ble_eq_true rfl, Nat.le_of_ble_eq_true rfl⟩ (Nat.le_of_ble_eq_true rfl) (Nat.le_of_ble_eq_true rfl) dG_doUpdates_59 (fun v59 g59 h59 => ?_)
              obtain ⟨rfl, rfl⟩ := h59
              have hA2 : cA _ Z (trS T1 e (bl a (T1.1 2 e + 1) (-1) (T1.2.2 2 e)) (bl a (T1.1 2 e + 1) (-1) (T1.2.2 3 e)) (bl a (T1.1 2 e + 1) 0 (T1.2.2 4 e))) n := hA1.tr (e := e) _ _ _
              obtain ⟨qpb, ypb, hqpb, hqp2b⟩ := id hA2.2.2.2.2.2.1
              have hwb := hA2.2.2.2.1.2 e he
              refine gh_aload_n C dG_doUpdates_62 rfl ?_
              refine gh_get C fG_60 hwb.1 rfl dG_doUpdates_63 ?_
              refine gh_aload_n C dG_doUpdates_66 rfl ?_
              refine gh_get C fG_230 ((tset_o20 _ _ _ _ _ _ _ _ _).trans (hqp2 i hlt).2) rfl dG_doUpdates_67 ?_
              refine gh_ti (nI a) ha1 ?_
              refine gh_callS C [.int (nI a)] (c_leafNode l d _ (nI a)) lG_233 wG_leafNode sG_leafNode rfl rfl (Nat.le_of_ble_eq_true rfl) ⟨Nat.le_of_ble_eq_true rfl, Nat.le_of_ble_eq_true rfl⟩ (Nat.le_of_ble_eq_true rfl) (Nat.le_of_ble_eq_true rfl) dG_doUpdates_70 (fun v70 g70 h70 => ?_)
              obtain ⟨rfl, rfl⟩ := h70
              rw [two_n a]
              refine gh_aload_n C dG_doUpdates_73 rfl ?_
              refine gh_get C fG_251 ((tset_o20 _ _ _ _ _ _ _ _ _).trans (hqp2 i hlt).2) rfl dG_doUpdates_74 ?_
              refine gh_aload_n C dG_doUpdates_77 rfl ?_
              refine gh_get C fG_158 hwb.1 rfl dG_doUpdates_78 ?_
              refine gh_callV C [.int (nI (2 * a)), .int (T1.2.1 19 i), .int (nI e)] (c_give l d _ hwb.2 (nI (2 * a)) (T1.2.1 19 i) (nI e)) lG_68 wT_give vT_give hwb.2.1 rfl rfl rfl (Nat.le_of_ble_eq_true rfl) ⟨Nat.le_of_ble_eq_true rfl, Nat.le_of_ble_eq_true rfl⟩ (Nat.le_of_ble_eq_true rfl) (Nat.le_of_ble_eq_true rfl) dG_doUpdates_81 (fun v81 g81 h81 => ?_)
              obtain ⟨rfl, rfl⟩ := h81
              have hw5 : 2 * a < tW ((trS T1 e (bl a (T1.1 2 e + 1) (-1) (T1.2.2 2 e)) (bl a (T1.1 2 e + 1) (-1) (T1.2.2 3 e)) (bl a (T1.1 2 e + 1) 0 (T1.2.2 4 e))).1 2 e) := leaf_tw haD
              rw [tput_n hwb.2.2.2.2.2 hw5, tput_n hwb.2.2.2.2.2 hw5, tput_n hwb.2.2.2.2.2 hw5]
              have hA3 : cA _ Z (gvS (trS T1 e (bl a (T1.1 2 e + 1) (-1) (T1.2.2 2 e)) (bl a (T1.1 2 e + 1) (-1) (T1.2.2 3 e)) (bl a (T1.1 2 e + 1) 0 (T1.2.2 4 e))) e (2 * a) (T1.2.1 19 i) (nI e)) n := hA2.tr (e := e) _ _ _
              have hwc := hA3.2.2.2.1.2 e he
              refine gh_aload_n C dG_doUpdates_84 rfl ?_
              refine gh_dup C dG_doUpdates_85 rfl ?_
              refine gh_get C fG_135 hwc.1 rfl dG_doUpdates_86 ?_
              refine gh_aload_n C dG_doUpdates_89 rfl ?_
              refine gh_get C fG_230 ((tset_o20 _ _ _ _ _ _ _ _ _).trans ((tset_o20 _ _ _ _ _ _ _ _ _).trans (hqp2 i hlt).2)) rfl dG_doUpdates_90 ?_
              refine gh_ti (nI a) ha1 ?_
              refine gh_callS C [.int (nI a)] (c_bit l d _ (nI a)) lG_239 wG_bit sG_bit rfl rfl (Nat.le_of_ble_eq_true rfl) ⟨Nat.le_of_ble_eq_true rfl, Nat.le_of_ble_eq_true rfl⟩ (Nat.le_of_ble_eq_true rfl) (Nat.le_of_ble_eq_true rfl) dG_doUpdates_93 (fun v93 g93 h93 => ?_)
              obtain ⟨rfl, rfl⟩ := h93
              refine gh_ior C dG_doUpdates_96 ?_
              refine gh_putL C [.int (nI e), .ref (Z 13 e), .int ((st1 (gvS (trS T1 e (bl a (T1.1 2 e + 1) (-1) (T1.2.2 2 e)) (bl a (T1.1 2 e + 1) (-1) (T1.2.2 3 e)) (bl a (T1.1 2 e + 1) 0 (T1.2.2 4 e))) e (2 * a) (T1.2.1 19 i) (nI e)) 8 e (T1.2.1 8 e ||| bitN a)).2.1 4 e), .int ((st1 (gvS (trS T1 e (bl a (T1.1 2 e + 1) (-1) (T1.2.2 2 e)) (bl a (T1.1 2 e + 1) (-1) (T1.2.2 3 e)) (bl a (T1.1 2 e + 1) 0 (T1.2.2 4 e))) e (2 * a) (T1.2.1 19 i) (nI e)) 8 e (T1.2.1 8 e ||| bitN a)).2.1 5 e), .int ((st1 (gvS (trS T1 e (bl a (T1.1 2 e + 1) (-1) (T1.2.2 2 e)) (bl a (T1.1 2 e + 1) (-1) (T1.2.2 3 e)) (bl a (T1.1 2 e + 1) 0 (T1.2.2 4 e))) e (2 * a) (T1.2.1 19 i) (nI e)) 8 e (T1.2.1 8 e ||| bitN a)).2.1 6 e), .int ((st1 (gvS (trS T1 e (bl a (T1.1 2 e + 1) (-1) (T1.2.2 2 e)) (bl a (T1.1 2 e + 1) (-1) (T1.2.2 3 e)) (bl a (T1.1 2 e + 1) 0 (T1.2.2 4 e))) e (2 * a) (T1.2.1 19 i) (nI e)) 8 e (T1.2.1 8 e ||| bitN a)).2.1 7 e), .int ((st1 (gvS (trS T1 e (bl a (T1.1 2 e + 1) (-1) (T1.2.2 2 e)) (bl a (T1.1 2 e + 1) (-1) (T1.2.2 3 e)) (bl a (T1.1 2 e + 1) 0 (T1.2.2 4 e))) e (2 * a) (T1.2.1 19 i) (nI e)) 8 e (T1.2.1 8 e ||| bitN a)).2.1 8 e), .int ((st1 (gvS (trS T1 e (bl a (T1.1 2 e + 1) (-1) (T1.2.2 2 e)) (bl a (T1.1 2 e + 1) (-1) (T1.2.2 3 e)) (bl a (T1.1 2 e + 1) 0 (T1.2.2 4 e))) e (2 * a) (T1.2.1 19 i) (nI e)) 8 e (T1.2.1 8 e ||| bitN a)).2.1 9 e), .int ((st1 (gvS (trS T1 e (bl a (T1.1 2 e + 1) (-1) (T1.2.2 2 e)) (bl a (T1.1 2 e + 1) (-1) (T1.2.2 3 e)) (bl a (T1.1 2 e + 1) 0 (T1.2.2 4 e))) e (2 * a) (T1.2.1 19 i) (nI e)) 8 e (T1.2.1 8 e ||| bitN a)).2.1 10 e)] pG_135 (by decide) hwc.1 (by simp [st1, gvS, trS, st2, bitN]) (by simp) rfl rfl dG_doUpdates_97 ?_
              have hA4 := hA3.ep (e := e) 8 (T1.2.1 8 e ||| bitN a) (by decide)
              exact inc _ _ (by rw [ez]; exact hA4) (((hf1.trans (fr_tset rfl rfl rfl)).trans (fr_tset rfl rfl rfl)).trans (fr.rf.u rfl))
  refine gh_iconst C 0 dG_doUpdates_0 (by decide) ?_
  refine gh_istore_n C [some (.ref (Z 1 0)), some (.ref (Z 12 e)), some (.int 0), none] dG_doUpdates_1 rfl (Nat.le_of_ble_eq_true rfl) ?_
  exact loop (sQ S) 0 g _ (by omega) hA fr.rf
/-! one ADD -/
def adD (S : SC) (e p a D1 : Nat) : SC :=
  let S2 := gvS (dpS S e D1 (S.2.2 2 e) (S.2.2 3 e) (S.2.2 4 e)) e (2 * a) (S.2.1 13 p) (nI e)
  st1 (st1 (st1 (st1 (trS S2 e (S2.2.2 2 e) (S2.2.2 3 e) (mk1 a (S2.2.2 2 e) (S2.2.2 4 e) (S2.1 2 e))) 9 e (S.2.1 9 e ||| bitN a)) 20 a (S.2.1 11 p)) 14 p (nI e)) 15 p (nI a)
def adS (S : SC) (e p : Nat) : SC :=
  if fbl (S.1 2 e) (S.2.2 2 e) < 2 ^ S.1 2 e then adD S e p (fbl (S.1 2 e) (S.2.2 2 e)) (S.1 2 e)
  else if S.1 2 e < 4 then adD S e p (2 ^ S.1 2 e) (S.1 2 e + 1) else S
theorem nI_ne1 {a : Nat} (h : a < 2 ^ 31) : nI a ≠ -1 := fun e => by
  have h1 := nI_clamp h
  rw [e] at h1
  have h2 := nI_pos h
  rw [e] at h2
  exact absurd (by decide) h2
theorem cA.ow {g : gh_H} {Z : ZC} {S : SC} {n : Nat} (h : cA g Z S n) (a : Nat) (x : Int32) : cA (gh_u g (21, 0) (Z 21 0, .inl (0, 16, .inl (upd (S.2.1 20) a x)))) Z (st1 S 20 a x) n := by
  rw [upd_ow]
  have hf : fr (fun k => k == 21) g (gh_u g (21, 0) (Z 21 0, .inl (0, 16, .inl ((st1 S 20 a x).2.1 20)))) := fr.rf.u rfl
  exact ⟨h.1.fr hf (by decide), h.2.1.fr hf (by decide), h.2.2.1.fr hf (by decide), h.2.2.2.1.fr hf (by decide), h.2.2.2.2.1.fr hf (by decide), h.2.2.2.2.2.1.fr hf (by decide), gh_us, h.2.2.2.2.2.2.2.1.fr hf (by decide), h.2.2.2.2.2.2.2.2⟩
theorem cA.pk {g : gh_H} {Z : ZC} {S S1 : SC} {n p : Nat} (h : cA g Z S n) (h0 : S1.1 = S.1) (h2 : S1.2.2 = S.2.2) (h1 : ∀ c, c < 11 ∨ 16 < c → S1.2.1 c = S.2.1 c) (hi : ∀ c i, i ≠ p → S1.2.1 c i = S.2.1 c i) : cA (gh_u g (18, p) (Z 18 p, .inr (5, [.int (S1.2.1 11 p), .int (S1.2.1 12 p), .int (S1.2.1 13 p), .int (S1.2.1 14 p), .int (S1.2.1 15 p), .int (S1.2.1 16 p)]))) Z S1 n := by
  have hf : fr (fun k => k == 18) g (gh_u g (18, p) (Z 18 p, .inr (5, [.int (S1.2.1 11 p), .int (S1.2.1 12 p), .int (S1.2.1 13 p), .int (S1.2.1 14 p), .int (S1.2.1 15 p), .int (S1.2.1 16 p)]))) := fr.rf.u rfl
  refine ⟨?_, ?_, ?_, ?_, ?_, ?_, ?_, h.2.2.2.2.2.2.2.1.fr hf (by decide), ?_⟩
  · have := h.1.fr hf (by decide)
    unfold cG sE sP sQ at this ⊢
    rw [h0]; exact this
  · have := h.2.1.fr hf (by decide)
    unfold cS sN sR at this ⊢
    rw [h0, h1 21 (by omega), h1 22 (by omega), h1 23 (by omega), h1 24 (by omega)]; exact this
  · obtain ⟨q1, q2⟩ := h.2.2.1.fr hf (by decide)
    refine ⟨q1, fun m hm => ?_⟩
    have := q2 m hm
    unfold cM1 at this ⊢
    rw [h0, h2, h1 0 (by omega), h1 1 (by omega), h1 2 (by omega), h1 3 (by omega)]
    exact this
  · obtain ⟨⟨q, q1, q2⟩, h3⟩ := h.2.2.2.1.fr hf (by decide)
    refine ⟨⟨q, q1, by unfold sE; rw [h0]; exact q2⟩, fun i hi => ?_⟩
    have := h3 i hi
    unfold cE1 at this ⊢
    rw [h0, h2, h1 4 (by omega), h1 5 (by omega), h1 6 (by omega), h1 7 (by omega), h1 8 (by omega), h1 9 (by omega), h1 10 (by omega)]
    exact this
  · obtain ⟨⟨q, q1, q2⟩, h3⟩ := h.2.2.2.2.1
    refine ⟨⟨q, (gh_un (gh_kd (by decide))).trans q1, by unfold sP; rw [h0]; exact q2⟩, fun i hi9 => ?_⟩
    by_cases hip : i = p
    · subst hip; exact gh_us
    · have := h3 i (by unfold sP at hi9 ⊢; rw [h0] at hi9; exact hi9)
      unfold cK1 at this ⊢
      rw [hi 11 i hip, hi 12 i hip, hi 13 i hip, hi 14 i hip, hi 15 i hip, hi 16 i hip, gh_un (gh_kx hip)]
      exact this
  · obtain ⟨q, y, q1, q2⟩ := h.2.2.2.2.2.1.fr hf (by decide)
    refine ⟨q, y, q1, ?_⟩
    unfold sQ
    rw [h0, h1 17 (by omega), h1 18 (by omega), h1 19 (by omega)]
    exact q2
  · have := h.2.2.2.2.2.2.1.fr hf (by decide)
    unfold cO at this ⊢
    rw [h1 20 (by omega)]; exact this
  · have := h.2.2.2.2.2.2.2.2
    unfold okC sN sR at this ⊢
    rw [h0, h1 21 (by omega), h1 22 (by omega), h1 23 (by omega), h1 24 (by omega)]; exact this
set_option maxRecDepth 100000 in
set_option maxHeartbeats 4000000 in
theorem c_addBy (l : Launch) (d : gh_D) (g : gh_H) {Z : ZC} {S : SC} {n : Nat} (hA : cA g Z S n) (e : Nat) (he : e < n) (p : Nat) (hp : p < sP S) : gh_C l d mG_addBy (rr 3 0 0) [.ref (Z 1 0), .ref (Z 18 p), .ref (Z 12 e)] g (fun v g1 => v = none ∧ cA g1 Z (adS S e p) n ∧ fr kA g g1) := by
  refine gh_of [some (.ref (Z 1 0)), some (.ref (Z 18 p)), some (.ref (Z 12 e)), none] (by decide) rfl (Nat.le_of_ble_eq_true rfl) (by simp [Value.category]) (fun z C hQ => ?_)
  show gh_W l d z 0 [some (.ref (Z 1 0)), some (.ref (Z 18 p)), some (.ref (Z 12 e)), none] [] g 0 0
  have hw := hA.2.2.2.1.2 e he
  have hD := hw.2.2.2.2.2
  have body : ∀ (a D1 : Nat) (g1 : gh_H), a < 2 ^ D1 → D1 ≤ 4 → adS S e p = adD S e p a D1 → g1 = tst g e D1 (Z 13 e) (Z 14 e) (Z 15 e) (Z 16 e) (S.2.2 2 e) (S.2.2 3 e) (S.2.2 4 e) → gh_W l d z 7 [some (.ref (Z 1 0)), some (.ref (Z 18 p)), some (.ref (Z 12 e)), none] [.int (nI a)] g1 0 0 := by
    intro a D1 g1 ha hD1 eS eg
    have ha16 : a < 16 := Nat.lt_of_lt_of_le ha (pow_le _ hD1)
    have hA1 : cA g1 Z (dpS S e D1 (S.2.2 2 e) (S.2.2 3 e) (S.2.2 4 e)) n := by rw [eg]; exact hA.dp D1 hD1 _ _ _
    have hf1 : fr kA g g1 := by rw [eg]; exact (fr_tset rfl rfl rfl).u rfl
    have hw1 := hA1.2.2.2.1.2 e he
    have eD1 : (dpS S e D1 (S.2.2 2 e) (S.2.2 3 e) (S.2.2 4 e)).1 2 e = D1 := by simp [dpS, stN]
    have hp1 := hA1.2.2.2.2.1.2 p hp
    have e13 : (dpS S e D1 (S.2.2 2 e) (S.2.2 3 e) (S.2.2 4 e)).2.1 13 p = S.2.1 13 p := rfl
    refine gh_istore_n C [some (.ref (Z 1 0)), some (.ref (Z 18 p)), some (.ref (Z 12 e)), some (.int (nI a))] dG_addBy_7 rfl (Nat.le_of_ble_eq_true rfl) ?_
    refine gh_iload_n C dG_addBy_8 rfl ?_
    refine gh_iconst C (-1) dG_addBy_9 (by decide) ?_
    refine gh_icmp_ne C 14 dG_addBy_10 (by decide) (fun c10 => ?_) (fun c10 => ?_)
    ·
      refine gh_aload_n C dG_addBy_14 rfl ?_
      refine gh_get C fG_60 hw1.1 rfl dG_addBy_15 ?_
      refine gh_iload_n C dG_addBy_18 rfl ?_
      refine gh_callS C [.int (nI a)] (c_leafNode l d _ (nI a)) lG_233 wG_leafNode sG_leafNode rfl rfl (Nat.le_of_ble_eq_true rfl) ⟨Nat.le_of_ble_eq_true rfl, Nat.le_of_ble_eq_true rfl⟩ (Nat.le_of_ble_eq_true rfl) (Nat.le_of_ble_eq_true rfl) dG_addBy_19 (fun v19 g19 h19 => ?_)
      obtain ⟨rfl, rfl⟩ := h19
      rw [two_n a]
      refine gh_aload_n C dG_addBy_22 rfl ?_
      refine gh_get C fG_272 hp1 rfl dG_addBy_23 ?_
      refine gh_aload_n C dG_addBy_26 rfl ?_
      refine gh_get C fG_158 hw1.1 rfl dG_addBy_27 ?_
      refine gh_callV C [.int (nI (2 * a)), .int (S.2.1 13 p), .int (nI e)] (c_give l d _ hw1.2 (nI (2 * a)) (S.2.1 13 p) (nI e)) lG_68 wT_give vT_give hw1.2.1 rfl rfl rfl (Nat.le_of_ble_eq_true rfl) ⟨Nat.le_of_ble_eq_true rfl, Nat.le_of_ble_eq_true rfl⟩ (Nat.le_of_ble_eq_true rfl) (Nat.le_of_ble_eq_true rfl) dG_addBy_30 (fun v30 g30 h30 => ?_)
      obtain ⟨rfl, rfl⟩ := h30
      have hw5 : 2 * a < tW ((dpS S e D1 (S.2.2 2 e) (S.2.2 3 e) (S.2.2 4 e)).1 2 e) := by rw [eD1]; exact leaf_tw ha
      rw [tput_n hw1.2.2.2.2.2 hw5, tput_n hw1.2.2.2.2.2 hw5, tput_n hw1.2.2.2.2.2 hw5]
      have hA2 : cA _ Z (gvS (dpS S e D1 (S.2.2 2 e) (S.2.2 3 e) (S.2.2 4 e)) e (2 * a) (S.2.1 13 p) (nI e)) n := hA1.tr (e := e) _ _ _
      have hw2 := hA2.2.2.2.1.2 e he
      have hp2 := hA2.2.2.2.2.1.2 p hp
      have eD2 : (gvS (dpS S e D1 (S.2.2 2 e) (S.2.2 3 e) (S.2.2 4 e)) e (2 * a) (S.2.1 13 p) (nI e)).1 2 e = D1 := eD1
      refine gh_aload_n C dG_addBy_33 rfl ?_
      refine gh_get C fG_60 hw2.1 rfl dG_addBy_34 ?_
      refine gh_iload_n C dG_addBy_37 rfl ?_
      refine gh_callV C [.int (nI a)] (c_mark l d _ hw2.2 a (by rw [eD2]; exact ha)) lG_275 wT_markUnmerged vT_markUnmerged hw2.2.1 rfl rfl rfl (Nat.le_of_ble_eq_true rfl) ⟨Nat.le_of_ble_eq_true rfl, Nat.le_of_ble_eq_true rfl⟩ (Nat.le_of_ble_eq_true rfl) (Nat.le_of_ble_eq_true rfl) dG_addBy_38 (fun v38 g38 h38 => ?_)
      obtain ⟨rfl, rfl⟩ := h38
      have hA3 := hA2.tr (e := e) ((gvS (dpS S e D1 (S.2.2 2 e) (S.2.2 3 e) (S.2.2 4 e)) e (2 * a) (S.2.1 13 p) (nI e)).2.2 2 e) ((gvS (dpS S e D1 (S.2.2 2 e) (S.2.2 3 e) (S.2.2 4 e)) e (2 * a) (S.2.1 13 p) (nI e)).2.2 3 e) (mk1 a ((gvS (dpS S e D1 (S.2.2 2 e) (S.2.2 3 e) (S.2.2 4 e)) e (2 * a) (S.2.1 13 p) (nI e)).2.2 2 e) ((gvS (dpS S e D1 (S.2.2 2 e) (S.2.2 3 e) (S.2.2 4 e)) e (2 * a) (S.2.1 13 p) (nI e)).2.2 4 e) ((gvS (dpS S e D1 (S.2.2 2 e) (S.2.2 3 e) (S.2.2 4 e)) e (2 * a) (S.2.1 13 p) (nI e)).1 2 e))
      obtain ⟨T3, eT3⟩ : ∃ T3, T3 = trS (gvS (dpS S e D1 (S.2.2 2 e) (S.2.2 3 e) (S.2.2 4 e)) e (2 * a) (S.2.1 13 p) (nI e)) e ((gvS (dpS S e D1 (S.2.2 2 e) (S.2.2 3 e) (S.2.2 4 e)) e (2 * a) (S.2.1 13 p) (nI e)).2.2 2 e) ((gvS (dpS S e D1 (S.2.2 2 e) (S.2.2 3 e) (S.2.2 4 e)) e (2 * a) (S.2.1 13 p) (nI e)).2.2 3 e) (mk1 a ((gvS (dpS S e D1 (S.2.2 2 e) (S.2.2 3 e) (S.2.2 4 e)) e (2 * a) (S.2.1 13 p) (nI e)).2.2 2 e) ((gvS (dpS S e D1 (S.2.2 2 e) (S.2.2 3 e) (S.2.2 4 e)) e (2 * a) (S.2.1 13 p) (nI e)).2.2 4 e) ((gvS (dpS S e D1 (S.2.2 2 e) (S.2.2 3 e) (S.2.2 4 e)) e (2 * a) (S.2.1 13 p) (nI e)).1 2 e)) := ⟨_, rfl⟩
      rw [← eT3] at hA3
      have e9 : T3.2.1 = S.2.1 := by rw [eT3]; rfl
      have e1 : sP T3 = sP S := by rw [eT3]; rfl
      have hw3 := hA3.2.2.2.1.2 e he
      have hp3 := hA3.2.2.2.2.1.2 p (by rw [e1]; exact hp)
      unfold cK1 at hp3
      rw [e9] at hp3
      refine gh_aload_n C dG_addBy_41 rfl ?_
      refine gh_dup C dG_addBy_42 rfl ?_
      refine gh_get C fG_138 hw3.1 rfl dG_addBy_43 ?_
      refine gh_iload_n C dG_addBy_46 rfl ?_
      refine gh_callS C [.int (nI a)] (c_bit l d _ (nI a)) lG_239 wG_bit sG_bit rfl rfl (Nat.le_of_ble_eq_true rfl) ⟨Nat.le_of_ble_eq_true rfl, Nat.le_of_ble_eq_true rfl⟩ (Nat.le_of_ble_eq_true rfl) (Nat.le_of_ble_eq_true rfl) dG_addBy_47 (fun v47 g47 h47 => ?_)
      obtain ⟨rfl, rfl⟩ := h47
      refine gh_ior C dG_addBy_50 ?_
      refine gh_putL C [.int (nI e), .ref (Z 13 e), .int ((st1 T3 9 e (S.2.1 9 e ||| bitN a)).2.1 4 e), .int ((st1 T3 9 e (S.2.1 9 e ||| bitN a)).2.1 5 e), .int ((st1 T3 9 e (S.2.1 9 e ||| bitN a)).2.1 6 e), .int ((st1 T3 9 e (S.2.1 9 e ||| bitN a)).2.1 7 e), .int ((st1 T3 9 e (S.2.1 9 e ||| bitN a)).2.1 8 e), .int ((st1 T3 9 e (S.2.1 9 e ||| bitN a)).2.1 9 e), .int ((st1 T3 9 e (S.2.1 9 e ||| bitN a)).2.1 10 e)] pG_138 (by decide) hw3.1 (by simp [st1, bitN, e9]) (by simp) rfl rfl dG_addBy_51 ?_
      have hA4 := hA3.ep (e := e) 9 (S.2.1 9 e ||| bitN a) (by decide)
      have hp4 := hA4.2.2.2.2.1.2 p (show p < sP T3 by rw [e1]; exact hp)
      have hw4 := hA4.2.2.2.1.2 e he
      have e94 : ∀ c, c ≠ 9 → (st1 T3 9 e (S.2.1 9 e ||| bitN a)).2.1 c = S.2.1 c := fun c hc => by
        funext i
        simp [st1, hc, e9]
      unfold cK1 at hp4
      rw [e94 11 (by decide), e94 12 (by decide), e94 13 (by decide), e94 14 (by decide), e94 15 (by decide), e94 16 (by decide)] at hp4
      have hO4 := hA4.2.2.2.2.2.2.1
      unfold cO at hO4
      refine gh_aload_n C dG_addBy_54 rfl ?_
      refine gh_get C fG_40 hA4.1 rfl dG_addBy_55 ?_
      refine gh_iload_n C dG_addBy_58 rfl ?_
      refine gh_aload_n C dG_addBy_59 rfl ?_
      refine gh_get C fG_263 hp4 rfl dG_addBy_60 ?_
      refine gh_iastN C (a) hO4 rfl rfl ⟨ha16, by decide⟩ dG_addBy_63 ?_
      have hA5 := hA4.ow a (S.2.1 11 p)
      have hp5 := hA5.2.2.2.2.1.2 p (show p < sP T3 by rw [e1]; exact hp)
      have hw5 := hA5.2.2.2.1.2 e he
      have hA7 := hA5.pk (S1 := st1 (st1 (st1 (st1 T3 9 e (S.2.1 9 e ||| bitN a)) 20 a (S.2.1 11 p)) 14 p (nI e)) 15 p (nI a)) (p := p) rfl rfl (fun c hc => by funext i; simp [st1, show c ≠ 14 by omega, show c ≠ 15 by omega]) (fun c i hi => by simp [st1, hi])
      refine gh_aload_n C dG_addBy_64 rfl ?_
      refine gh_aload_n C dG_addBy_65 rfl ?_
      refine gh_get C fG_158 hw5.1 rfl dG_addBy_66 ?_
      refine gh_putL C [.int (S.2.1 11 p), .int (S.2.1 12 p), .int (S.2.1 13 p), .int (nI e), .int (S.2.1 15 p), .int (S.2.1 16 p)] pG_262 (by decide) ((gh_un (gh_kd (by decide))).trans hp4) rfl (by simp) rfl rfl dG_addBy_69 ?_
      refine gh_aload_n C dG_addBy_72 rfl ?_
      refine gh_iload_n C dG_addBy_73 rfl ?_
      refine gh_putL C [.int (S.2.1 11 p), .int (S.2.1 12 p), .int (S.2.1 13 p), .int (nI e), .int (nI a), .int (S.2.1 16 p)] pG_278 (by decide) gh_us rfl (by simp) rfl rfl dG_addBy_74 ?_
      refine gh_vret C hQ rfl dG_addBy_77 ?_
      rw [gh_uu]
      refine ⟨rfl, ?_, ?_⟩
      · have eF : adS S e p = st1 (st1 (st1 (st1 T3 9 e (S.2.1 9 e ||| bitN a)) 20 a (S.2.1 11 p)) 14 p (nI e)) 15 p (nI a) := by rw [eS, eT3]; rfl
        rw [eF]
        have h8 := hA7
        simp only [st1] at h8
        simpa [st1, e9] using hA7
      · exact ((((hf1.trans (fr_tset rfl rfl rfl)).trans (fr_tset rfl rfl rfl)).u rfl).u rfl).u rfl
    · exact absurd c10 (nI_ne1 (by omega))
  refine gh_aload_n C dG_addBy_0 rfl ?_
  refine gh_get C fG_60 hw.1 rfl dG_addBy_1 ?_
  refine gh_callV C [] (c_makeRoom l d _ hw.2) lG_269 wT_makeRoom vT_makeRoom hw.2.1 rfl rfl rfl (Nat.le_of_ble_eq_true rfl) ⟨Nat.le_of_ble_eq_true rfl, Nat.le_of_ble_eq_true rfl⟩ (Nat.le_of_ble_eq_true rfl) (Nat.le_of_ble_eq_true rfl) dG_addBy_4 (fun v4 g4 h4 => ?_)
  rcases h4 with ⟨h1, rfl, rfl⟩ | ⟨h1, h2, rfl, rfl⟩ | ⟨h1, h2, rfl, rfl⟩
  · refine body _ (S.1 2 e) _ h1 hD (if_pos h1) ?_
    unfold tst
    rw [tset_self hw.2, gh_uself hw.2.1]
  rotate_left
  · refine body _ (S.1 2 e + 1) _ (by rw [Nat.pow_succ]; have := Nat.two_pow_pos (S.1 2 e); omega) (by omega) (by unfold adS; rw [if_neg (by omega), if_pos h2]) ?_
    unfold tst
    rw [tset_self hw.2]
  refine gh_istore_n C [some (.ref (Z 1 0)), some (.ref (Z 18 p)), some (.ref (Z 12 e)), some (.int (-1))] dG_addBy_7 rfl (Nat.le_of_ble_eq_true rfl) ?_
  refine gh_iload_n C dG_addBy_8 rfl ?_
  refine gh_iconst C (-1) dG_addBy_9 (by decide) ?_
  refine gh_icmp_ne C 14 dG_addBy_10 (by decide) (fun c10 => ?_) (fun c10 => ?_)
  · exact absurd rfl c10
  ·
    refine gh_vret C hQ rfl dG_addBy_13 ?_
    exact ⟨rfl, by unfold adS; rw [if_neg (by omega), if_neg (by omega)]; exact hA, fr.rf⟩
