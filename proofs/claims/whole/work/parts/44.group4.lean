/-! what is sent to those who were added -/
def pkS (S : SC) (e : Nat) (sel : Nat → Bool) (s : Int32) : Nat → SC
  | 0 => S
  | i + 1 => if S.2.1 14 i = nI e ∧ sel i = true then encS (pkS S e sel s i) e (S.2.1 12 i) s else pkS S e sel s i
theorem sq_pk (S : SC) (e : Nat) (sel : Nat → Bool) (s : Int32) : ∀ i, sq S (pkS S e sel s i)
  | 0 => sq.rf
  | i + 1 => by
    unfold pkS
    split
    · exact (sq_pk S e sel s i).trans (sq_enc _ _ _ _)
    · exact sq_pk S e sel s i
theorem pk_r (S : SC) (e : Nat) (sel : Nat → Bool) (s : Int32) : ∀ i, sR (pkS S e sel s i) ≤ sR (pkS S e sel s (i + 1)) ∧ sR (pkS S e sel s (i + 1)) ≤ sR (pkS S e sel s i) + 1 := by
  intro i
  conv => enter [1, 2]; unfold pkS
  conv => enter [2, 1]; unfold pkS
  split
  · rw [enc_r]; omega
  · omega
theorem pk_m (S : SC) (e : Nat) (sel : Nat → Bool) (s : Int32) {i j : Nat} (h : i ≤ j) : sR (pkS S e sel s i) ≤ sR (pkS S e sel s j) ∧ sR (pkS S e sel s j) ≤ sR (pkS S e sel s i) + (j - i) := by
  induction j with
  | zero => have : i = 0 := by omega
            subst this; omega
  | succ j ih =>
    by_cases hij : i = j + 1
    · subst hij; omega
    · have h1 := ih (by omega)
      have h2 := pk_r S e sel s j
      omega
def selH (S : SC) (h v : Nat) : Nat → Bool := fun i => decide (pn (S.2.1 15 i).toNatClampNeg h = v)
set_option maxRecDepth 100000 in
set_option maxHeartbeats 4000000 in
theorem c_sendToAdded (l : Launch) (d : gh_D) (g : gh_H) {Z : ZC} {S : SC} (hG : cG g Z S) (hS : cS g Z S) (ok : okC S) (hP60 : sP S ≤ 60) (hr : sR S + 60 ≤ 4096) {n : Nat} (hE : cE g Z S n) (hK : cK g Z S) (e : Nat) (he : e < n) (v h : Nat) (hv : v < 31) (hh : h ≤ 4) (y : Int32) (hl : ∀ i, i < sP S → S.2.1 14 i = nI e → ∃ a, a < 16 ∧ S.2.1 15 i = nI a) : gh_C l d mG_sendToAdded (rr 5 180 (6 * cap (sR (pkS S e (selH S h v) y (sP S))) - 6 * cap (sR S))) [.ref (Z 1 0), .ref (Z 12 e), .int (nI v), .int (nI h), .int y] g (fun v9 g1 => v9 = none ∧ cS g1 Z (pkS S e (selH S h v) y (sP S)) ∧ okC (pkS S e (selH S h v) y (sP S)) ∧ cE g1 Z (pkS S e (selH S h v) y (sP S)) n ∧ fr kN g g1) := by
  refine gh_of [some (.ref (Z 1 0)), some (.ref (Z 12 e)), some (.int (nI v)), some (.int (nI h)), some (.int y), none] (by decide) rfl (Nat.le_of_ble_eq_true rfl) (by simp [Value.category]) (fun z C hQ => ?_)
  show gh_W l d z 0 [some (.ref (Z 1 0)), some (.ref (Z 12 e)), some (.int (nI v)), some (.int (nI h)), some (.int y), none] [] g 180 (6 * cap (sR (pkS S e (selH S h v) y (sP S))) - 6 * cap (sR S))
  have loop : ∀ (c i : Nat) (g1 : gh_H), i + c = sP S → cG g1 Z S → cK g1 Z S → cS g1 Z (pkS S e (selH S h v) y i) → okC (pkS S e (selH S h v) y i) → cE g1 Z (pkS S e (selH S h v) y i) n → fr kN g g1 → gh_W l d z 3 [some (.ref (Z 1 0)), some (.ref (Z 12 e)), some (.int (nI v)), some (.int (nI h)), some (.int y), some (.int (nI i))] [] g1 (3 * c) (6 * cap (sR (pkS S e (selH S h v) y (sP S))) - 6 * cap (sR (pkS S e (selH S h v) y i))) := by
    intro c
    induction c with
    | zero =>
      intro i g1 hi hG1 hK1 hS1 ok1 hE1 hf1
      have hi : i = sP S := by omega
      subst hi
      refine gh_iload C dG_sendToAdded_3 rfl ?_
      refine gh_aload_n C dG_sendToAdded_5 rfl ?_
      refine gh_get C fG_90 hG1 rfl dG_sendToAdded_6 ?_
      refine gh_icmp_ge C 70 dG_sendToAdded_9 (by decide) (fun c9 => ?_) (fun c9 => ?_)
      ·
        refine gh_vret C hQ rfl dG_sendToAdded_70 ?_
        exact ⟨rfl, hS1, ok1, hE1, hf1⟩
      · exact absurd (nI_le (Nat.le_refl (sP S)) (by omega)) c9
    | succ c ih =>
      intro i g1 hi hG1 hK1 hS1 ok1 hE1 hf1
      have hlt : i < sP S := by omega
      have hm1 := pk_m S e (selH S h v) y (show i ≤ sP S by omega)
      have hm0 := pk_m S e (selH S h v) y (Nat.zero_le i)
      have hm2 := pk_m S e (selH S h v) y (show i + 1 ≤ sP S by omega)
      have hs := sq_pk S e (selH S h v) y i
      have hE0 : cG g1 Z (pkS S e (selH S h v) y i) := hG1.sq hs
      have hw := hE1.2 e he
      have e0 : sR (pkS S e (selH S h v) y 0) = sR S := rfl
      obtain ⟨⟨qk, hqk, hqk2⟩, hK2⟩ := id hK1
      have hki := hK2 i hlt
      refine gh_iload C dG_sendToAdded_3 rfl ?_
      refine gh_aload_n C dG_sendToAdded_5 rfl ?_
      refine gh_get C fG_90 hG1 rfl dG_sendToAdded_6 ?_
      refine gh_icmp_ge C 70 dG_sendToAdded_9 (by decide) (fun c9 => ?_) (fun c9 => ?_)
      · exact absurd c9 (nI_ge hlt (by omega))
      ·
        refine gh_aload_n C dG_sendToAdded_12 rfl ?_
        refine gh_get C fG_30 hG1 rfl dG_sendToAdded_13 ?_
        refine gh_iload C dG_sendToAdded_16 rfl ?_
        refine gh_aaldN C (i) hqk rfl rfl ⟨by omega, by decide⟩ dG_sendToAdded_18 ?_
        refine gh_tr (some (Z 18 i)) (hqk2 i hlt) ?_
        refine gh_get C fG_262 hki rfl dG_sendToAdded_19 ?_
        refine gh_aload_n C dG_sendToAdded_22 rfl ?_
        refine gh_get C fG_158 hw.1 rfl dG_sendToAdded_23 ?_
        refine gh_icmp_ne C 64 dG_sendToAdded_26 (by decide) (fun c26 => ?_) (fun c26 => ?_)
        · have ez : (pkS S e (selH S h v) y (i + 1)) = (pkS S e (selH S h v) y i) := if_neg (fun h9 => c26 h9.1)
          refine gh_iinc C (nI (i + 1)) [some (.ref (Z 1 0)), some (.ref (Z 12 e)), some (.int (nI v)), some (.int (nI h)), some (.int y), some (.int (nI (i + 1)))] dG_sendToAdded_64 rfl (gh_inc i) rfl ?_
          refine gh_goto C 3 dG_sendToAdded_67 (by decide) ?_
          refine gh_less C (3 * c) (6 * cap (sR (pkS S e (selH S h v) y (sP S))) - 6 * cap (sR (pkS S e (selH S h v) y (i + 1)))) (by (try dsimp only [rr]); omega) (by rw [ez]; (try dsimp only [rr]); omega) ?_
          exact ih (i + 1) _ (by omega) hG1 hK1 (by rw [ez]; exact hS1) (by rw [ez]; exact ok1) (by rw [ez]; exact hE1) hf1
        ·
          obtain ⟨a, ha, hla⟩ := hl i hlt c26
          have hcl : (S.2.1 15 i).toNatClampNeg = a := by rw [hla]; exact nI_clamp (by omega)
          have hpn := pn_lt h hh a ha
          refine gh_aload_n C dG_sendToAdded_29 rfl ?_
          refine gh_get C fG_30 hG1 rfl dG_sendToAdded_30 ?_
          refine gh_iload C dG_sendToAdded_33 rfl ?_
          refine gh_aaldN C (i) hqk rfl rfl ⟨by omega, by decide⟩ dG_sendToAdded_35 ?_
          refine gh_tr (some (Z 18 i)) (hqk2 i hlt) ?_
          refine gh_get C fG_278 hki rfl dG_sendToAdded_36 ?_
          refine gh_iload_n C dG_sendToAdded_39 rfl ?_
          refine gh_callS C [.int (S.2.1 15 i), .int (nI h)] ((by rw [hla]; exact c_pathNode l d _ a h ha hh : gh_C l d mG_pathNode (rr 0 0 0) [.int (S.2.1 15 i), .int (nI h)] _ (fun v9 g9 => v9 = some (.int (nI (pn a h))) ∧ g9 = _))) lG_279 wG_pathNode sG_pathNode rfl rfl (Nat.le_of_ble_eq_true rfl) ⟨Nat.le_of_ble_eq_true rfl, Nat.le_of_ble_eq_true rfl⟩ (Nat.le_of_ble_eq_true rfl) (Nat.le_of_ble_eq_true rfl) dG_sendToAdded_40 (fun v40 g40 h40 => ?_)
          obtain ⟨rfl, rfl⟩ := h40
          refine gh_iload_n C dG_sendToAdded_43 rfl ?_
          refine gh_icmp_ne C 64 dG_sendToAdded_44 (by decide) (fun c44 => ?_) (fun c44 => ?_)
          · have ez : (pkS S e (selH S h v) y (i + 1)) = (pkS S e (selH S h v) y i) := if_neg (fun h9 => c44 ((nI_eq (by omega) (by omega)).mpr (by have h8 := h9.2; simp only [selH, decide_eq_true_eq, hcl] at h8; exact h8)))
            refine gh_iinc C (nI (i + 1)) [some (.ref (Z 1 0)), some (.ref (Z 12 e)), some (.int (nI v)), some (.int (nI h)), some (.int y), some (.int (nI (i + 1)))] dG_sendToAdded_64 rfl (gh_inc i) rfl ?_
            refine gh_goto C 3 dG_sendToAdded_67 (by decide) ?_
            refine gh_less C (3 * c) (6 * cap (sR (pkS S e (selH S h v) y (sP S))) - 6 * cap (sR (pkS S e (selH S h v) y (i + 1)))) (by (try dsimp only [rr]); omega) (by rw [ez]; (try dsimp only [rr]); omega) ?_
            exact ih (i + 1) _ (by omega) hG1 hK1 (by rw [ez]; exact hS1) (by rw [ez]; exact ok1) (by rw [ez]; exact hE1) hf1
          ·
            have hsel : selH S h v i = true := by simp only [selH, decide_eq_true_eq, hcl]; exact (nI_eq (by omega) (by omega)).mp c44
            have ez : (pkS S e (selH S h v) y (i + 1)) = encS (pkS S e (selH S h v) y i) e (S.2.1 12 i) y := if_pos ⟨c26, hsel⟩
            have er : sR (pkS S e (selH S h v) y (i + 1)) = sR (pkS S e (selH S h v) y i) + 1 := by rw [ez]; rfl
            have hc1 := cap_mono (show sR (pkS S e (selH S h v) y i) ≤ sR (pkS S e (selH S h v) y i) + 1 by omega)
            have hc2 := cap_mono hm2.1
            rw [er] at hc2
            refine gh_aload_n C dG_sendToAdded_47 rfl ?_
            refine gh_aload_n C dG_sendToAdded_48 rfl ?_
            refine gh_aload_n C dG_sendToAdded_49 rfl ?_
            refine gh_get C fG_30 hG1 rfl dG_sendToAdded_50 ?_
            refine gh_iload C dG_sendToAdded_53 rfl ?_
            refine gh_aaldN C (i) hqk rfl rfl ⟨by omega, by decide⟩ dG_sendToAdded_55 ?_
            refine gh_tr (some (Z 18 i)) (hqk2 i hlt) ?_
            refine gh_get C fG_305 hki rfl dG_sendToAdded_56 ?_
            refine gh_iload C dG_sendToAdded_59 rfl ?_
            refine gh_callV C [.ref (Z 12 e), .int (S.2.1 12 i), .int y] (c_encrypt l d _ hE0 hS1 ok1 (by omega) hE1 e he (S.2.1 12 i) y) lG_302 wG_encrypt vG_encrypt hG1 rfl rfl rfl (Nat.le_of_ble_eq_true rfl) ⟨Nat.le_of_ble_eq_true rfl, Nat.le_of_ble_eq_true rfl⟩ (by (try dsimp only [rr]); omega) (by (try dsimp only [rr]); omega) dG_sendToAdded_61 (fun v61 g61 h61 => ?_)
            obtain ⟨rfl, hS2, hE2, hf2⟩ := h61
            rw [← ez] at hS2 hE2
            refine gh_iinc C (nI (i + 1)) [some (.ref (Z 1 0)), some (.ref (Z 12 e)), some (.int (nI v)), some (.int (nI h)), some (.int y), some (.int (nI (i + 1)))] dG_sendToAdded_64 rfl (gh_inc i) rfl ?_
            refine gh_goto C 3 dG_sendToAdded_67 (by decide) ?_
            refine gh_less C (3 * c) (6 * cap (sR (pkS S e (selH S h v) y (sP S))) - 6 * cap (sR (pkS S e (selH S h v) y (i + 1)))) (by (try dsimp only [rr]); omega) (by (try dsimp only [rr]); rw [er]; omega) ?_
            exact ih (i + 1) _ (by omega) (hG1.fr hf2 (by decide)) (hK1.fr hf2 (by decide)) hS2 (by rw [ez]; exact ok1.enc (by omega) _ _ _) hE2 (hf1.trans hf2)
  refine gh_iconst C 0 dG_sendToAdded_0 (by decide) ?_
  refine gh_istore C [some (.ref (Z 1 0)), some (.ref (Z 12 e)), some (.int (nI v)), some (.int (nI h)), some (.int y), some (.int 0)] dG_sendToAdded_1 rfl (Nat.le_of_ble_eq_true rfl) ?_
  refine gh_less C (3 * sP S) _ (by omega) (Nat.le_refl _) ?_
  exact loop (sP S) 0 g (by omega) hG hK hS ok hE fr.rf
