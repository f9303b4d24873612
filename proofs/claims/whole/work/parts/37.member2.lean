/-! canOpen, moveByCommit, follow, gatherInto -/
theorem pn_lo : ∀ h, h ≤ 4 → ∀ a, a < 16 → 2 ^ h ≤ pn a h + 1 ∧ pn a h + 2 ^ h < 1000 := by decide +kernel
def rcv (D : Nat) (K U : Nat → Int32) (ad : Int32) (p h : Nat) : Int32 := res D K U h (pn p h) &&& (lns ad 16 ^^^ (-1))
def cano (D : Nat) (K U : Nat → Int32) (ad : Int32) (p h : Nat) (f : Nat → Int32) : Bool := (List.range (h + 1)).any (fun i => decide (rcv D K U ad p h &&& bitN (pn p i) ≠ 0) && decide (f i = tk D K (pn p i)))
set_option maxRecDepth 100000 in
set_option maxHeartbeats 4000000 in
theorem c_canOpen (l : Launch) (d : gh_D) (g : gh_H) {m a ka ua uc : Nat} {ep lf sec stk : Int32} {f u : Nat → Int32} (hm : pM g m a ka ua ep lf sec stk uc f u) {e D t xa xb xc : Nat} {K B U : Nat → Int32} (hp : pT g e D t xa xb xc K B U) {x : Nat} {num cl es cn rm up ad en : Int32} (he : pE g e x t num cl es cn rm up ad en) (p : Nat) (hlf : lf = nI p) (hpl : p < 16) (h : Nat) (hh : h < 4) : gh_C l d mB_canOpen (rr 8 0 0) [.ref a, .ref x, .int (nI (h + 1))] g (fun v g1 => v = some (.int (if cano D K U ad p h f = true then 1 else 0)) ∧ g1 = g) := by
  refine gh_of [some (.ref a), some (.ref x), some (.int (nI (h + 1))), none, none, none, none] (by decide) rfl (Nat.le_of_ble_eq_true rfl) (by simp [Value.category]) (fun z C hQ => ?_)
  show gh_W l d z 0 [some (.ref a), some (.ref x), some (.int (nI (h + 1))), none, none, none, none] [] g 0 0
  have hD := hp.2.2.2.2
  subst hlf
  have loop : ∀ (c i : Nat) (y : Option Value), i + c = h + 1 → (∀ j, j < i → ¬ (rcv D K U ad p h &&& bitN (pn p j) ≠ 0 ∧ f j = tk D K (pn p j))) → gh_W l d z 37 [some (.ref a), some (.ref x), some (.int (nI (h + 1))), some (.int (nI (pn p h))), some (.int (rcv D K U ad p h)), some (.int (nI i)), y] [] g 0 0 := by
    intro c
    induction c with
    | zero =>
      intro i y hi hb
      have hi : i = h + 1 := by omega
      subst hi
      have hc : ¬ cano D K U ad p h f = true := by
        intro hq
        obtain ⟨j, hj, he⟩ := List.any_eq_true.mp hq
        rw [List.mem_range] at hj
        simp only [Bool.and_eq_true, decide_eq_true_eq] at he
        exact hb j hj he
      refine gh_iload C dB_canOpen_37 rfl ?_
      refine gh_iload_n C dB_canOpen_39 rfl ?_
      refine gh_icmp_ge C 98 dB_canOpen_40 (by decide) (fun c40 => ?_) (fun c40 => ?_)
      ·
        refine gh_iconst C 0 dB_canOpen_98 (by decide) ?_
        refine gh_zret C hQ rfl (by simp) dB_canOpen_99 ?_
        exact ⟨by rw [if_neg hc], rfl⟩
      · exact absurd (nI_le (Nat.le_refl (h + 1)) (by omega)) c40
    | succ c ih =>
      intro i y hi hb
      have hlt : i < h + 1 := by omega
      have hv := pn_lt i (by omega) p hpl
      refine gh_iload C dB_canOpen_37 rfl ?_
      refine gh_iload_n C dB_canOpen_39 rfl ?_
      refine gh_icmp_ge C 98 dB_canOpen_40 (by decide) (fun c40 => ?_) (fun c40 => ?_)
      · exact absurd c40 (nI_ge hlt (by omega))
      ·
        refine gh_iload C dB_canOpen_43 rfl ?_
        refine gh_iconst C 4 dB_canOpen_45 (by decide) ?_
        refine gh_icmp_gt C 98 dB_canOpen_46 (by decide) (fun c46 => ?_) (fun c46 => ?_)
        · exact absurd c46 (show ¬ nI 4 < nI i from nI_nlt (by omega) (by decide))
        ·
          refine gh_aload_n C dB_canOpen_49 rfl ?_
          refine gh_get C fB_15 hm.1 rfl dB_canOpen_50 ?_
          refine gh_iload C dB_canOpen_53 rfl ?_
          refine gh_callS C [.int (nI p), .int (nI i)] (c_pathNode l d _ p i hpl (by omega)) lB_86 wG_pathNode sG_pathNode rfl rfl (Nat.le_of_ble_eq_true rfl) ⟨Nat.le_of_ble_eq_true rfl, Nat.le_of_ble_eq_true rfl⟩ (Nat.le_of_ble_eq_true rfl) (Nat.le_of_ble_eq_true rfl) dB_canOpen_55 (fun v55 g55 h55 => ?_)
          obtain ⟨rfl, rfl⟩ := h55
          refine gh_istore C [some (.ref a), some (.ref x), some (.int (nI (h + 1))), some (.int (nI (pn p h))), some (.int (rcv D K U ad p h)), some (.int (nI i)), some (.int (nI (pn p i)))] dB_canOpen_58 rfl (Nat.le_of_ble_eq_true rfl) ?_
          refine gh_iload C dB_canOpen_60 rfl ?_
          refine gh_iload C dB_canOpen_62 rfl ?_
          refine gh_callS C [.int (nI (pn p i))] (c_bit l d _ (nI (pn p i))) lB_73 wG_bit sG_bit rfl rfl (Nat.le_of_ble_eq_true rfl) ⟨Nat.le_of_ble_eq_true rfl, Nat.le_of_ble_eq_true rfl⟩ (Nat.le_of_ble_eq_true rfl) (Nat.le_of_ble_eq_true rfl) dB_canOpen_64 (fun v64 g64 h64 => ?_)
          obtain ⟨rfl, rfl⟩ := h64
          refine gh_iand C dB_canOpen_67 ?_
          refine gh_if_eq C 92 dB_canOpen_68 (by decide) (fun c68 => ?_) (fun c68 => ?_)
          · refine gh_iinc C (nI (i + 1)) [some (.ref a), some (.ref x), some (.int (nI (h + 1))), some (.int (nI (pn p h))), some (.int (rcv D K U ad p h)), some (.int (nI (i + 1))), some (.int (nI (pn p i)))] dB_canOpen_92 rfl (gh_inc i) rfl ?_
            refine gh_goto C 37 dB_canOpen_95 (by decide) ?_
            exact ih (i + 1) _ (by omega) (fun j hj => by
              by_cases hji : j = i
              · subst hji; exact fun q => q.1 c68
              · exact hb j (by omega))
          ·
            refine gh_aload_n C dB_canOpen_71 rfl ?_
            refine gh_get C fB_21 hm.1 rfl dB_canOpen_72 ?_
            refine gh_iload C dB_canOpen_75 rfl ?_
            refine gh_ialdN C (i) hm.2.1 rfl rfl ⟨by omega, by decide⟩ dB_canOpen_77 ?_
            refine gh_aload_n C dB_canOpen_78 rfl ?_
            refine gh_get C fB_46 he rfl dB_canOpen_79 ?_
            refine gh_iload C dB_canOpen_82 rfl ?_
            refine gh_callV C [.int (nI (pn p i))] (c_keyOf l d _ hp (nI (pn p i))) lB_54 wT_keyOf vT_keyOf hp.1 rfl rfl rfl (Nat.le_of_ble_eq_true rfl) ⟨Nat.le_of_ble_eq_true rfl, Nat.le_of_ble_eq_true rfl⟩ (Nat.le_of_ble_eq_true rfl) (Nat.le_of_ble_eq_true rfl) dB_canOpen_84 (fun v84 g84 h84 => ?_)
            obtain ⟨rfl, rfl⟩ := h84
            rw [tk_n hD hv]
            refine gh_icmp_ne C 92 dB_canOpen_87 (by decide) (fun c87 => ?_) (fun c87 => ?_)
            · refine gh_iinc C (nI (i + 1)) [some (.ref a), some (.ref x), some (.int (nI (h + 1))), some (.int (nI (pn p h))), some (.int (rcv D K U ad p h)), some (.int (nI (i + 1))), some (.int (nI (pn p i)))] dB_canOpen_92 rfl (gh_inc i) rfl ?_
              refine gh_goto C 37 dB_canOpen_95 (by decide) ?_
              exact ih (i + 1) _ (by omega) (fun j hj => by
                by_cases hji : j = i
                · subst hji; exact fun q => c87 q.2
                · exact hb j (by omega))
            ·
              refine gh_iconst C 1 dB_canOpen_90 (by decide) ?_
              refine gh_zret C hQ rfl (by simp) dB_canOpen_91 ?_
              have hc : cano D K U ad p h f = true := List.any_eq_true.mpr ⟨i, List.mem_range.mpr hlt, by simp only [Bool.and_eq_true, decide_eq_true_eq]; exact ⟨c68, c87⟩⟩
              exact ⟨by rw [if_pos hc], rfl⟩
  refine gh_aload_n C dB_canOpen_0 rfl ?_
  refine gh_get C fB_15 hm.1 rfl dB_canOpen_1 ?_
  refine gh_iload_n C dB_canOpen_4 rfl ?_
  refine gh_iconst C 1 dB_canOpen_5 (by decide) ?_
  refine gh_isub C dB_canOpen_6 ?_
  refine gh_ti (nI h) (nI_pred h) ?_
  refine gh_callS C [.int (nI p), .int (nI h)] (c_pathNode l d _ p h hpl (by omega)) lB_86 wG_pathNode sG_pathNode rfl rfl (Nat.le_of_ble_eq_true rfl) ⟨Nat.le_of_ble_eq_true rfl, Nat.le_of_ble_eq_true rfl⟩ (Nat.le_of_ble_eq_true rfl) (Nat.le_of_ble_eq_true rfl) dB_canOpen_7 (fun v7 g7 h7 => ?_)
  obtain ⟨rfl, rfl⟩ := h7
  refine gh_istore_n C [some (.ref a), some (.ref x), some (.int (nI (h + 1))), some (.int (nI (pn p h))), none, none, none] dB_canOpen_10 rfl (Nat.le_of_ble_eq_true rfl) ?_
  refine gh_aload_n C dB_canOpen_11 rfl ?_
  refine gh_get C fB_46 he rfl dB_canOpen_12 ?_
  refine gh_iload_n C dB_canOpen_15 rfl ?_
  refine gh_iload_n C dB_canOpen_16 rfl ?_
  refine gh_iconst C 1 dB_canOpen_17 (by decide) ?_
  refine gh_isub C dB_canOpen_18 ?_
  refine gh_ti (nI h) (nI_pred h) ?_
  refine gh_callV C [.int (nI (pn p h)), .int (nI h)] (c_res l d _ hp h (pn p h) (by omega) (pn_lo h (by omega) p hpl).1 (pn_lo h (by omega) p hpl).2) lB_90 wT_resolution vT_resolution hp.1 rfl rfl rfl (Nat.le_of_ble_eq_true rfl) ⟨by show h + 3 + 1 ≤ 8; omega, by show 8 + (4 + 11) + 40 * (h + 3) ≤ 40 * 8; omega⟩ (Nat.le_of_ble_eq_true rfl) (Nat.le_of_ble_eq_true rfl) dB_canOpen_19 (fun v19 g19 h19 => ?_)
  obtain ⟨rfl, rfl⟩ := h19
  refine gh_aload_n C dB_canOpen_22 rfl ?_
  refine gh_get C fB_93 he rfl dB_canOpen_23 ?_
  refine gh_callS C [.int ad] (c_leafNodes l d _ ad) lB_96 wG_leafNodes sG_leafNodes rfl rfl (Nat.le_of_ble_eq_true rfl) ⟨Nat.le_of_ble_eq_true rfl, Nat.le_of_ble_eq_true rfl⟩ (Nat.le_of_ble_eq_true rfl) (Nat.le_of_ble_eq_true rfl) dB_canOpen_26 (fun v26 g26 h26 => ?_)
  obtain ⟨rfl, rfl⟩ := h26
  refine gh_iconst C (-1) dB_canOpen_29 (by decide) ?_
  refine gh_ixor C dB_canOpen_30 ?_
  refine gh_iand C dB_canOpen_31 ?_
  refine gh_ti (rcv D K U ad p h) rfl ?_
  refine gh_istore C [some (.ref a), some (.ref x), some (.int (nI (h + 1))), some (.int (nI (pn p h))), some (.int (rcv D K U ad p h)), none, none] dB_canOpen_32 rfl (Nat.le_of_ble_eq_true rfl) ?_
  refine gh_iconst C 0 dB_canOpen_34 (by decide) ?_
  refine gh_istore C [some (.ref a), some (.ref x), some (.int (nI (h + 1))), some (.int (nI (pn p h))), some (.int (rcv D K U ad p h)), some (.int 0), none] dB_canOpen_35 rfl (Nat.le_of_ble_eq_true rfl) ?_
  exact loop (h + 1) 0 none (by omega) (fun j hj => by omega)
theorem lowh_ow (D : Nat) (c : Int32) (a : Nat) : lowh D c a = owI (lowc D c a) := by unfold lowh owI; rfl
theorem lowc_lt {D : Nat} {c : Int32} {a h : Nat} (hh : lowc D c a = some h) : h < D := by
  unfold lowc at hh
  rw [List.find?_range_eq_some] at hh
  simpa using hh.2.1
def nsec (sec es : Int32) : Int32 := if sec = -1 then -1 else es
set_option maxRecDepth 100000 in
set_option maxHeartbeats 4000000 in
theorem c_moveByCommit (l : Launch) (d : gh_D) (g : gh_H) {m a ka ua uc : Nat} {ep lf sec stk : Int32} {f u : Nat → Int32} (hm : pM g m a ka ua ep lf sec stk uc f u) {e D t xa xb xc : Nat} {K B U : Nat → Int32} (hp : pT g e D t xa xb xc K B U) {x : Nat} {num cl es cn rm up ad en : Int32} (he : pE g e x t num cl es cn rm up ad en) (p : Nat) (hlf : lf = nI p) (hpl : p < 2 ^ D) : gh_C l d mB_moveByCommit (rr 4 0 0) [.ref a, .ref x] g (fun v g1 => v = none ∧ g1 = mst g m a ka ua num (nI p) (nsec sec es) stk 0 (lrq D K cn p (lowc D cn p) (upd (drp D K p f 5) 0 (K (2 * p))))) := by
  refine gh_of [some (.ref a), some (.ref x)] (by decide) rfl (Nat.le_of_ble_eq_true rfl) (by simp [Value.category]) (fun z C hQ => ?_)
  show gh_W l d z 0 [some (.ref a), some (.ref x)] [] g 0 0
  have hD := hp.2.2.2.2
  have h16 := pow_le D hD
  subst hlf
  have hv := leaf_w D hD p hpl
  have rest : gh_W l d z 25 [some (.ref a), some (.ref x)] [.int (nsec sec es), .ref a] (gh_u g (8, m) (a, .inr (2, [.int num, .int (nI p), .int sec, .int stk, .ref ka, .ref ua, .int (nI uc)]))) 0 0 := by
    refine gh_putL C [.int num, .int (nI p), .int (nsec sec es), .int stk, .ref ka, .ref ua, .int (nI uc)] pB_18 (by decide) gh_us rfl (by simp) rfl rfl dB_moveByCommit_25 ?_
    refine gh_aload_n C dB_moveByCommit_28 rfl ?_
    refine gh_iconst C 0 dB_moveByCommit_29 (by decide) ?_
    refine gh_putL C [.int num, .int (nI p), .int (nsec sec es), .int stk, .ref ka, .ref ua, .int 0] pB_34 (by decide) gh_us rfl (by simp) rfl rfl dB_moveByCommit_30 ?_
    have eg : gh_u (gh_u (gh_u g (8, m) (a, .inr (2, [.int num, .int (nI p), .int sec, .int stk, .ref ka, .ref ua, .int (nI uc)]))) (8, m) (a, .inr (2, [.int num, .int (nI p), .int (nsec sec es), .int stk, .ref ka, .ref ua, .int (nI uc)]))) (8, m) (a, .inr (2, [.int num, .int (nI p), .int (nsec sec es), .int stk, .ref ka, .ref ua, .int 0])) = mst g m a ka ua num (nI p) (nsec sec es) stk 0 f := by
      rw [gh_uu, gh_uu]; unfold mst; rw [gh_uself hm.2.1]; rfl
    rw [eg]
    have hm1 := mst_pM (ep1 := num) (lf1 := (nI p)) (sec1 := (nsec sec es)) (stk1 := stk) (uc1 := 0) (f1 := f) hm
    have hp1 := mst_pT (m := m) (a := a) (ka := ka) (ua := ua) (uc := 0) (ep := num) (lf := (nI p)) (sec := (nsec sec es)) (stk := stk) (f := f) hp
    have he1 := mst_pE (m := m) (a := a) (ka := ka) (ua := ua) (uc := 0) (ep := num) (lf := (nI p)) (sec := (nsec sec es)) (stk := stk) (f := f) he
    refine gh_aload_n C dB_moveByCommit_33 rfl ?_
    refine gh_aload_n C dB_moveByCommit_34 rfl ?_
    refine gh_get C fB_46 he1 rfl dB_moveByCommit_35 ?_
    refine gh_callV C [.ref t] (c_drop l d _ hm1 hp1 p rfl (by omega)) lB_59 wB_dropOldKeys vB_dropOldKeys hm1.1 rfl rfl rfl (Nat.le_of_ble_eq_true rfl) ⟨Nat.le_of_ble_eq_true rfl, Nat.le_of_ble_eq_true rfl⟩ (Nat.le_of_ble_eq_true rfl) (Nat.le_of_ble_eq_true rfl) dB_moveByCommit_38 (fun v38 g38 h38 => ?_)
    obtain ⟨rfl, rfl⟩ := h38
    rw [mst_mst]
    have hm2 := mst_pM (ep1 := num) (lf1 := (nI p)) (sec1 := (nsec sec es)) (stk1 := stk) (uc1 := 0) (f1 := (drp D K p f 5)) hm
    have hp2 := mst_pT (m := m) (a := a) (ka := ka) (ua := ua) (uc := 0) (ep := num) (lf := (nI p)) (sec := (nsec sec es)) (stk := stk) (f := (drp D K p f 5)) hp
    have he2 := mst_pE (m := m) (a := a) (ka := ka) (ua := ua) (uc := 0) (ep := num) (lf := (nI p)) (sec := (nsec sec es)) (stk := stk) (f := (drp D K p f 5)) he
    refine gh_aload_n C dB_moveByCommit_41 rfl ?_
    refine gh_get C fB_21 hm2.1 rfl dB_moveByCommit_42 ?_
    refine gh_iconst C 0 dB_moveByCommit_45 (by decide) ?_
    refine gh_aload_n C dB_moveByCommit_46 rfl ?_
    refine gh_get C fB_46 he2 rfl dB_moveByCommit_47 ?_
    refine gh_aload_n C dB_moveByCommit_50 rfl ?_
    refine gh_get C fB_15 hm2.1 rfl dB_moveByCommit_51 ?_
    refine gh_callS C [.int (nI p)] (c_leafNode l d _ (nI p)) lB_50 wG_leafNode sG_leafNode rfl rfl (Nat.le_of_ble_eq_true rfl) ⟨Nat.le_of_ble_eq_true rfl, Nat.le_of_ble_eq_true rfl⟩ (Nat.le_of_ble_eq_true rfl) (Nat.le_of_ble_eq_true rfl) dB_moveByCommit_54 (fun v54 g54 h54 => ?_)
    obtain ⟨rfl, rfl⟩ := h54
    rw [two_n p]
    refine gh_callV C [.int (nI (2 * p))] (c_keyOf l d _ hp2 (nI (2 * p))) lB_54 wT_keyOf vT_keyOf hp2.1 rfl rfl rfl (Nat.le_of_ble_eq_true rfl) ⟨Nat.le_of_ble_eq_true rfl, Nat.le_of_ble_eq_true rfl⟩ (Nat.le_of_ble_eq_true rfl) (Nat.le_of_ble_eq_true rfl) dB_moveByCommit_57 (fun v57 g57 h57 => ?_)
    obtain ⟨rfl, rfl⟩ := h57
    rw [tkey_n hD hv]
    refine gh_iastN C (0) hm2.2.1 rfl rfl ⟨by decide, by decide⟩ dB_moveByCommit_60 ?_
    rw [mst_9]
    have hm3 := mst_pM (ep1 := num) (lf1 := (nI p)) (sec1 := (nsec sec es)) (stk1 := stk) (uc1 := 0) (f1 := (upd (drp D K p f 5) 0 (K (2 * p)))) hm
    have hp3 := mst_pT (m := m) (a := a) (ka := ka) (ua := ua) (uc := 0) (ep := num) (lf := (nI p)) (sec := (nsec sec es)) (stk := stk) (f := (upd (drp D K p f 5) 0 (K (2 * p)))) hp
    have he3 := mst_pE (m := m) (a := a) (ka := ka) (ua := ua) (uc := 0) (ep := num) (lf := (nI p)) (sec := (nsec sec es)) (stk := stk) (f := (upd (drp D K p f 5) 0 (K (2 * p)))) he
    refine gh_aload_n C dB_moveByCommit_61 rfl ?_
    refine gh_aload_n C dB_moveByCommit_62 rfl ?_
    refine gh_aload_n C dB_moveByCommit_63 rfl ?_
    refine gh_aload_n C dB_moveByCommit_64 rfl ?_
    refine gh_get C fB_15 hm3.1 rfl dB_moveByCommit_65 ?_
    refine gh_callV C [.int (nI p)] (c_lowest l d _ hp3 he3 p hpl) lB_63 wE_lowestCounting vE_lowestCounting he3 rfl rfl rfl (Nat.le_of_ble_eq_true rfl) ⟨Nat.le_of_ble_eq_true rfl, Nat.le_of_ble_eq_true rfl⟩ (Nat.le_of_ble_eq_true rfl) (Nat.le_of_ble_eq_true rfl) dB_moveByCommit_68 (fun v68 g68 h68 => ?_)
    obtain ⟨rfl, rfl⟩ := h68
    rw [lowh_ow]
    refine gh_callV C [.ref x, .int (owI (lowc D cn p))] (c_learnPath l d _ hm3 hp3 he3 p rfl (by omega) (lowc D cn p) (fun h hh => by have := lowc_lt hh; omega)) lB_66 wB_learnPath vB_learnPath hm3.1 rfl rfl rfl (Nat.le_of_ble_eq_true rfl) ⟨Nat.le_of_ble_eq_true rfl, Nat.le_of_ble_eq_true rfl⟩ (Nat.le_of_ble_eq_true rfl) (Nat.le_of_ble_eq_true rfl) dB_moveByCommit_71 (fun v71 g71 h71 => ?_)
    obtain ⟨rfl, rfl⟩ := h71
    rw [mst_mst]
    refine gh_vret C hQ rfl dB_moveByCommit_74 ?_
    exact ⟨rfl, rfl⟩
  refine gh_aload_n C dB_moveByCommit_0 rfl ?_
  refine gh_aload_n C dB_moveByCommit_1 rfl ?_
  refine gh_get C fB_40 he rfl dB_moveByCommit_2 ?_
  refine gh_putL C [.int num, .int (nI p), .int sec, .int stk, .ref ka, .ref ua, .int (nI uc)] pB_9 (by decide) hm.1 rfl (by simp) rfl rfl dB_moveByCommit_5 ?_
  refine gh_aload_n C dB_moveByCommit_8 rfl ?_
  refine gh_aload_n C dB_moveByCommit_9 rfl ?_
  refine gh_get C fB_18 gh_us rfl dB_moveByCommit_10 ?_
  refine gh_iconst C (-1) dB_moveByCommit_13 (by decide) ?_
  refine gh_icmp_ne C 21 dB_moveByCommit_14 (by decide) (fun c14 => ?_) (fun c14 => ?_)
  ·
    have e : nsec sec es = es := if_neg c14
    refine gh_aload_n C dB_moveByCommit_21 rfl ?_
    refine gh_get C fB_45 ((gh_un (gh_kd (by decide))).trans he) rfl dB_moveByCommit_22 ?_
    rw [e] at rest
    exact rest
  ·
    have e : nsec sec es = -1 := if_pos c14
    refine gh_iconst C (-1) dB_moveByCommit_17 (by decide) ?_
    refine gh_goto C 25 dB_moveByCommit_18 (by decide) ?_
    rw [e] at rest
    exact rest
theorem mst_f9 {g : gh_H} {m a ka ua uc : Nat} {ep lf sec stk : Int32} {f u : Nat → Int32} (h : pM g m a ka ua ep lf sec stk uc f u) (f1 : Nat → Int32) : gh_u g (9, m) (ka, .inl (0, 5, .inl f1)) = mst g m a ka ua ep lf sec stk uc f1 := by
  rw [← mst_9 (f := f), mst_self h]
def skd (D : Nat) (K U : Nat → Int32) (cn ad : Int32) (p : Nat) (f : Nat → Int32) : Bool := match lowc D cn p with
  | some h => !cano D K U ad p h f
  | none => false
def flu (K : Nat → Int32) (up : Int32) (p : Nat) (f : Nat → Int32) : Nat → Int32 := if up &&& bitN p = 0 then f else upd f 0 (K (2 * p))
def flf (D : Nat) (K U : Nat → Int32) (cn ad up : Int32) (p : Nat) (f : Nat → Int32) : Nat → Int32 := if skd D K U cn ad p (flu K up p f) = true then drp D K p (flu K up p f) 5 else lrq D K cn p (lowc D cn p) (drp D K p (flu K up p f) 5)
def fls (sk : Bool) (sec es : Int32) : Int32 := if sec = -1 ∨ sk = true then -1 else es
theorem lrq_5 (D : Nat) (K : Nat → Int32) (cn : Int32) (p : Nat) (f : Nat → Int32) : lrq D K cn p none f = f := rfl
set_option maxRecDepth 100000 in
set_option maxHeartbeats 4000000 in
theorem c_followOut (l : Launch) (d : gh_D) (g : gh_H) {m a ka ua uc : Nat} {ep lf sec stk : Int32} {f u : Nat → Int32} (hm : pM g m a ka ua ep lf sec stk uc f u) {e x t : Nat} {num cl es cn rm up ad en : Int32} (he : pE g e x t num cl es cn rm up ad en) (p : Nat) (hlf : lf = nI p) (hrm : ¬ rm &&& bitN p = 0) : gh_C l d mB_follow (rr 2 0 0) [.ref a, .ref x] g (fun v g1 => v = none ∧ g1 = mst g m a ka ua (-1) (-1) (-1) stk 0 (fl 5 (-1) f)) := by
  subst hlf
  refine gh_of [some (.ref a), some (.ref x), none, none] (by decide) rfl (Nat.le_of_ble_eq_true rfl) (by simp [Value.category]) (fun z C hQ => ?_)
  show gh_W l d z 0 [some (.ref a), some (.ref x), none, none] [] g 0 0
  refine gh_aload_n C dB_follow_0 rfl ?_
  refine gh_get C fB_70 he rfl dB_follow_1 ?_
  refine gh_aload_n C dB_follow_4 rfl ?_
  refine gh_get C fB_15 hm.1 rfl dB_follow_5 ?_
  refine gh_callS C [.int (nI p)] (c_bit l d _ (nI p)) lB_73 wG_bit sG_bit rfl rfl (Nat.le_of_ble_eq_true rfl) ⟨Nat.le_of_ble_eq_true rfl, Nat.le_of_ble_eq_true rfl⟩ (Nat.le_of_ble_eq_true rfl) (Nat.le_of_ble_eq_true rfl) dB_follow_8 (fun v8 g8 h8 => ?_)
  obtain ⟨rfl, rfl⟩ := h8
  refine gh_iand C dB_follow_11 ?_
  refine gh_if_eq C 20 dB_follow_12 (by decide) (fun c12 => ?_) (fun c12 => ?_)
  · exact absurd c12 hrm
  ·
    refine gh_aload_n C dB_follow_15 rfl ?_
    refine gh_callV C [] (c_leave l d _ hm) lB_37 wB_leave vB_leave hm.1 rfl rfl rfl (Nat.le_of_ble_eq_true rfl) ⟨Nat.le_of_ble_eq_true rfl, Nat.le_of_ble_eq_true rfl⟩ (Nat.le_of_ble_eq_true rfl) (Nat.le_of_ble_eq_true rfl) dB_follow_16 (fun v16 g16 h16 => ?_)
    obtain ⟨rfl, rfl⟩ := h16
    refine gh_vret C hQ rfl dB_follow_19 ?_
    exact ⟨rfl, rfl⟩
set_option maxRecDepth 100000 in
set_option maxHeartbeats 4000000 in
theorem c_follow (l : Launch) (d : gh_D) (g : gh_H) {m a ka ua uc : Nat} {ep lf sec stk : Int32} {f u : Nat → Int32} (hm : pM g m a ka ua ep lf sec stk uc f u) {e D t xa xb xc : Nat} {K B U : Nat → Int32} (hp : pT g e D t xa xb xc K B U) {x : Nat} {num cl es cn rm up ad en : Int32} (he : pE g e x t num cl es cn rm up ad en) (p : Nat) (hlf : lf = nI p) (hpl : p < 2 ^ D) (hrm : rm &&& bitN p = 0) : gh_C l d mB_follow (rr 9 0 0) [.ref a, .ref x] g (fun v g1 => v = none ∧ g1 = mst g m a ka ua num (nI p) (fls (skd D K U cn ad p (flu K up p f)) sec es) (if skd D K U cn ad p (flu K up p f) = true then stk + 1 else stk) 0 (flf D K U cn ad up p f)) := by
  refine gh_of [some (.ref a), some (.ref x), none, none] (by decide) rfl (Nat.le_of_ble_eq_true rfl) (by simp [Value.category]) (fun z C hQ => ?_)
  show gh_W l d z 0 [some (.ref a), some (.ref x), none, none] [] g 0 0
  have hD := hp.2.2.2.2
  have h16 := pow_le D hD
  subst hlf
  have hv := leaf_w D hD p hpl
  obtain ⟨sk, esk⟩ : ∃ b, b = skd D K U cn ad p (flu K up p f) := ⟨_, rfl⟩
  rw [← esk] at hQ
  obtain ⟨F, eF⟩ : ∃ b, b = flu K up p f := ⟨_, rfl⟩
  rw [← eF] at esk
  have tail : ∀ (f2 : Nat → Int32) (y w : Int32), f2 = flf D K U cn ad up p f → w = (if sk = true then 1 else 0) → gh_W l d z 115 [some (.ref a), some (.ref x), some (.int y), some (.int w)] [] (mst g m a ka ua ep (nI p) sec (if sk = true then stk + 1 else stk) uc f2) 0 0 := by
    intro f2 y w ef2 ew
    have hm0 := mst_pM (ep1 := ep) (lf1 := (nI p)) (sec1 := sec) (stk1 := (if sk = true then stk + 1 else stk)) (uc1 := uc) (f1 := f2) hm
    have hp0 := mst_pT (m := m) (a := a) (ka := ka) (ua := ua) (uc := uc) (ep := ep) (lf := (nI p)) (sec := sec) (stk := (if sk = true then stk + 1 else stk)) (f := f2) hp
    have he0 := mst_pE (m := m) (a := a) (ka := ka) (ua := ua) (uc := uc) (ep := ep) (lf := (nI p)) (sec := sec) (stk := (if sk = true then stk + 1 else stk)) (f := f2) he
    have fin : ∀ s2 : Int32, s2 = fls sk sec es → gh_W l d z 144 [some (.ref a), some (.ref x), some (.int y), some (.int w)] [.int s2, .ref a] (mst g m a ka ua num (nI p) sec (if sk = true then stk + 1 else stk) uc f2) 0 0 := by
      intro s2 es2
      have hm1 := mst_pM (ep1 := num) (lf1 := (nI p)) (sec1 := sec) (stk1 := (if sk = true then stk + 1 else stk)) (uc1 := uc) (f1 := f2) hm
      have hp1 := mst_pT (m := m) (a := a) (ka := ka) (ua := ua) (uc := uc) (ep := num) (lf := (nI p)) (sec := sec) (stk := (if sk = true then stk + 1 else stk)) (f := f2) hp
      have he1 := mst_pE (m := m) (a := a) (ka := ka) (ua := ua) (uc := uc) (ep := num) (lf := (nI p)) (sec := sec) (stk := (if sk = true then stk + 1 else stk)) (f := f2) he
      refine gh_putL C [.int num, .int (nI p), .int s2, .int (if sk = true then stk + 1 else stk), .ref ka, .ref ua, .int (nI uc)] pB_18 (by decide) hm1.1 rfl (by simp) rfl rfl dB_follow_144 ?_
      refine gh_aload_n C dB_follow_147 rfl ?_
      refine gh_iconst C 0 dB_follow_148 (by decide) ?_
      refine gh_putL C [.int num, .int (nI p), .int s2, .int (if sk = true then stk + 1 else stk), .ref ka, .ref ua, .int 0] pB_34 (by decide) gh_us rfl (by simp) rfl rfl dB_follow_149 ?_
      refine gh_vret C hQ rfl dB_follow_152 ?_
      refine ⟨rfl, ?_⟩
      rw [mst_8]
      rw [show (Value.int 0) = Value.int (nI 0) from rfl, mst_8, es2, ef2]
    refine gh_aload_n C dB_follow_115 rfl ?_
    refine gh_aload_n C dB_follow_116 rfl ?_
    refine gh_get C fB_40 he0 rfl dB_follow_117 ?_
    refine gh_putL C [.int num, .int (nI p), .int sec, .int (if sk = true then stk + 1 else stk), .ref ka, .ref ua, .int (nI uc)] pB_9 (by decide) hm0.1 rfl (by simp) rfl rfl dB_follow_120 ?_
    rw [mst_8]
    have hm1 := mst_pM (ep1 := num) (lf1 := (nI p)) (sec1 := sec) (stk1 := (if sk = true then stk + 1 else stk)) (uc1 := uc) (f1 := f2) hm
    have hp1 := mst_pT (m := m) (a := a) (ka := ka) (ua := ua) (uc := uc) (ep := num) (lf := (nI p)) (sec := sec) (stk := (if sk = true then stk + 1 else stk)) (f := f2) hp
    have he1 := mst_pE (m := m) (a := a) (ka := ka) (ua := ua) (uc := uc) (ep := num) (lf := (nI p)) (sec := sec) (stk := (if sk = true then stk + 1 else stk)) (f := f2) he
    refine gh_aload_n C dB_follow_123 rfl ?_
    refine gh_aload_n C dB_follow_124 rfl ?_
    refine gh_get C fB_18 hm1.1 rfl dB_follow_125 ?_
    refine gh_iconst C (-1) dB_follow_128 (by decide) ?_
    refine gh_icmp_eq C 136 dB_follow_129 (by decide) (fun c129 => ?_) (fun c129 => ?_)
    ·
      have e : fls sk sec es = -1 := if_pos (Or.inl c129)
      refine gh_iconst C (-1) dB_follow_136 (by decide) ?_
      refine gh_goto C 144 dB_follow_137 (by decide) ?_
      exact fin _ e.symm
    ·
      refine gh_iload_n C dB_follow_132 rfl ?_
      refine gh_if_eq C 140 dB_follow_133 (by decide) (fun c133 => ?_) (fun c133 => ?_)
      ·
        have hs : ¬ sk = true := fun h => by rw [ew, if_pos h] at c133; exact absurd c133 (by decide)
        have e : fls sk sec es = es := if_neg (fun h => h.elim c129 hs)
        refine gh_aload_n C dB_follow_140 rfl ?_
        refine gh_get C fB_45 he1 rfl dB_follow_141 ?_
        exact fin _ e.symm
      ·
        have hs : sk = true := by
          by_cases h : sk = true
          · exact h
          · rw [ew, if_neg h] at c133; exact absurd rfl c133
        have e : fls sk sec es = -1 := if_pos (Or.inr hs)
        refine gh_iconst C (-1) dB_follow_136 (by decide) ?_
        refine gh_goto C 144 dB_follow_137 (by decide) ?_
        exact fin _ e.symm
  have mid : gh_W l d z 55 [some (.ref a), some (.ref x), none, none] [] (mst g m a ka ua ep (nI p) sec stk uc F) 0 0 := by
    have hm0 := mst_pM (ep1 := ep) (lf1 := (nI p)) (sec1 := sec) (stk1 := stk) (uc1 := uc) (f1 := F) hm
    have hp0 := mst_pT (m := m) (a := a) (ka := ka) (ua := ua) (uc := uc) (ep := ep) (lf := (nI p)) (sec := sec) (stk := stk) (f := F) hp
    have he0 := mst_pE (m := m) (a := a) (ka := ka) (ua := ua) (uc := uc) (ep := ep) (lf := (nI p)) (sec := sec) (stk := stk) (f := F) he
    have low : ∀ w : Int32, w = (if sk = true then 1 else 0) → gh_W l d z 83 [some (.ref a), some (.ref x), some (.int (owI (lowc D cn p))), none] [.int w] (mst g m a ka ua ep (nI p) sec stk uc F) 0 0 := by
      intro w ew
      refine gh_istore_n C [some (.ref a), some (.ref x), some (.int (owI (lowc D cn p))), some (.int w)] dB_follow_83 rfl (Nat.le_of_ble_eq_true rfl) ?_
      refine gh_aload_n C dB_follow_84 rfl ?_
      refine gh_aload_n C dB_follow_85 rfl ?_
      refine gh_get C fB_46 he0 rfl dB_follow_86 ?_
      refine gh_callV C [.ref t] (c_drop l d _ hm0 hp0 p rfl (by omega)) lB_59 wB_dropOldKeys vB_dropOldKeys hm0.1 rfl rfl rfl (Nat.le_of_ble_eq_true rfl) ⟨Nat.le_of_ble_eq_true rfl, Nat.le_of_ble_eq_true rfl⟩ (Nat.le_of_ble_eq_true rfl) (Nat.le_of_ble_eq_true rfl) dB_follow_89 (fun v89 g89 h89 => ?_)
      obtain ⟨rfl, rfl⟩ := h89
      rw [mst_mst]
      have hm1 := mst_pM (ep1 := ep) (lf1 := (nI p)) (sec1 := sec) (stk1 := stk) (uc1 := uc) (f1 := (drp D K p F 5)) hm
      have hp1 := mst_pT (m := m) (a := a) (ka := ka) (ua := ua) (uc := uc) (ep := ep) (lf := (nI p)) (sec := sec) (stk := stk) (f := (drp D K p F 5)) hp
      have he1 := mst_pE (m := m) (a := a) (ka := ka) (ua := ua) (uc := uc) (ep := ep) (lf := (nI p)) (sec := sec) (stk := stk) (f := (drp D K p F 5)) he
      refine gh_iload_n C dB_follow_92 rfl ?_
      refine gh_if_eq C 109 dB_follow_93 (by decide) (fun c93 => ?_) (fun c93 => ?_)
      ·
        have hs : ¬ sk = true := fun h => by rw [ew, if_pos h] at c93; exact absurd c93 (by decide)
        have t1 := tail (lrq D K cn p (lowc D cn p) (drp D K p F 5)) (owI (lowc D cn p)) w (by rw [eF] at esk ⊢; unfold flf; rw [if_neg (by rw [← esk]; exact hs)]) ew
        rw [if_neg hs] at t1
        refine gh_aload_n C dB_follow_109 rfl ?_
        refine gh_aload_n C dB_follow_110 rfl ?_
        refine gh_iload_n C dB_follow_111 rfl ?_
        refine gh_callV C [.ref x, .int (owI (lowc D cn p))] (c_learnPath l d _ hm1 hp1 he1 p rfl (by omega) (lowc D cn p) (fun h hh => by have := lowc_lt hh; omega)) lB_66 wB_learnPath vB_learnPath hm1.1 rfl rfl rfl (Nat.le_of_ble_eq_true rfl) ⟨Nat.le_of_ble_eq_true rfl, Nat.le_of_ble_eq_true rfl⟩ (Nat.le_of_ble_eq_true rfl) (Nat.le_of_ble_eq_true rfl) dB_follow_112 (fun v112 g112 h112 => ?_)
        obtain ⟨rfl, rfl⟩ := h112
        rw [mst_mst]
        exact t1
      ·
        have hs : sk = true := by
          by_cases h : sk = true
          · exact h
          · rw [ew, if_neg h] at c93; exact absurd rfl c93
        have t1 := tail (drp D K p F 5) (owI (lowc D cn p)) w (by rw [eF] at esk ⊢; unfold flf; rw [if_pos (by rw [← esk]; exact hs)]) ew
        rw [if_pos hs] at t1
        refine gh_aload_n C dB_follow_96 rfl ?_
        refine gh_dup C dB_follow_97 rfl ?_
        refine gh_get C fB_83 hm1.1 rfl dB_follow_98 ?_
        refine gh_iconst C 1 dB_follow_101 (by decide) ?_
        refine gh_iadd C dB_follow_102 ?_
        refine gh_putL C [.int ep, .int (nI p), .int sec, .int (stk + 1), .ref ka, .ref ua, .int (nI uc)] pB_83 (by decide) hm1.1 rfl (by simp) rfl rfl dB_follow_103 ?_
        refine gh_goto C 115 dB_follow_106 (by decide) ?_
        rw [mst_8]
        exact t1
    refine gh_aload_n C dB_follow_55 rfl ?_
    refine gh_aload_n C dB_follow_56 rfl ?_
    refine gh_get C fB_15 hm0.1 rfl dB_follow_57 ?_
    refine gh_callV C [.int (nI p)] (c_lowest l d _ hp0 he0 p hpl) lB_63 wE_lowestCounting vE_lowestCounting he0 rfl rfl rfl (Nat.le_of_ble_eq_true rfl) ⟨Nat.le_of_ble_eq_true rfl, Nat.le_of_ble_eq_true rfl⟩ (Nat.le_of_ble_eq_true rfl) (Nat.le_of_ble_eq_true rfl) dB_follow_60 (fun v60 g60 h60 => ?_)
    obtain ⟨rfl, rfl⟩ := h60
    rw [lowh_ow]
    refine gh_istore_n C [some (.ref a), some (.ref x), some (.int (owI (lowc D cn p))), none] dB_follow_63 rfl (Nat.le_of_ble_eq_true rfl) ?_
    refine gh_iload_n C dB_follow_64 rfl ?_
    refine gh_iconst C (-1) dB_follow_65 (by decide) ?_
    refine gh_icmp_eq C 82 dB_follow_66 (by decide) (fun c66 => ?_) (fun c66 => ?_)
    · have hn : lowc D cn p = none := by
        cases hl : lowc D cn p with
        | none => rfl
        | some h =>
          rw [hl] at c66
          have := nI_pos (n := h + 1) (by have := lowc_lt hl; omega)
          rw [show nI (h + 1) = -1 from c66] at this
          exact absurd (by decide) this
      have hs : sk = false := by rw [esk]; unfold skd; rw [hn]
      refine gh_iconst C 0 dB_follow_82 (by decide) ?_
      exact low 0 (by rw [hs]; rfl)
    ·
      obtain ⟨h, hh⟩ : ∃ h, lowc D cn p = some h := by
        cases hl : lowc D cn p with
        | none => rw [hl] at c66; exact absurd rfl c66
        | some h => exact ⟨h, rfl⟩
      have hh4 := lowc_lt hh
      refine gh_aload_n C dB_follow_69 rfl ?_
      refine gh_aload_n C dB_follow_70 rfl ?_
      refine gh_iload_n C dB_follow_71 rfl ?_
      refine gh_callV C [.ref x, .int (owI (lowc D cn p))] ((by rw [hh]; exact c_canOpen l d _ hm0 hp0 he0 p rfl (by omega) h (by omega) : gh_C l d mB_canOpen (rr 8 0 0) [.ref a, .ref x, .int (owI (lowc D cn p))] _ (fun v g1 => v = some (.int (if cano D K U ad p h F = true then 1 else 0)) ∧ g1 = mst g m a ka ua ep (nI p) sec stk uc F))) lB_79 wB_canOpen vB_canOpen hm0.1 rfl rfl rfl (Nat.le_of_ble_eq_true rfl) ⟨Nat.le_of_ble_eq_true rfl, Nat.le_of_ble_eq_true rfl⟩ (Nat.le_of_ble_eq_true rfl) (Nat.le_of_ble_eq_true rfl) dB_follow_72 (fun v72 g72 h72 => ?_)
      obtain ⟨rfl, rfl⟩ := h72
      refine gh_if_ne C 82 dB_follow_75 (by decide) (fun c75 => ?_) (fun c75 => ?_)
      ·
        have hs : sk = false := by
          rw [esk]; unfold skd; rw [hh]
          by_cases hc : cano D K U ad p h F = true
          · simp [hc]
          · rw [if_neg hc] at c75; exact absurd rfl c75
        refine gh_iconst C 0 dB_follow_82 (by decide) ?_
        exact low _ (by rw [hs]; rfl)
      ·
        have hs : sk = true := by
          rw [esk]; unfold skd; rw [hh]
          by_cases hc : cano D K U ad p h F = true
          · rw [if_pos hc] at c75; exact absurd c75 (by decide)
          · simp [hc]
        refine gh_iconst C 1 dB_follow_78 (by decide) ?_
        refine gh_goto C 83 dB_follow_79 (by decide) ?_
        exact low _ (by rw [hs]; rfl)
  refine gh_aload_n C dB_follow_0 rfl ?_
  refine gh_get C fB_70 he rfl dB_follow_1 ?_
  refine gh_aload_n C dB_follow_4 rfl ?_
  refine gh_get C fB_15 hm.1 rfl dB_follow_5 ?_
  refine gh_callS C [.int (nI p)] (c_bit l d _ (nI p)) lB_73 wG_bit sG_bit rfl rfl (Nat.le_of_ble_eq_true rfl) ⟨Nat.le_of_ble_eq_true rfl, Nat.le_of_ble_eq_true rfl⟩ (Nat.le_of_ble_eq_true rfl) (Nat.le_of_ble_eq_true rfl) dB_follow_8 (fun v8 g8 h8 => ?_)
  obtain ⟨rfl, rfl⟩ := h8
  refine gh_iand C dB_follow_11 ?_
  refine gh_if_eq C 20 dB_follow_12 (by decide) (fun c12 => ?_) (fun c12 => ?_)
  ·
    refine gh_aload_n C dB_follow_20 rfl ?_
    refine gh_get C fB_76 he rfl dB_follow_21 ?_
    refine gh_aload_n C dB_follow_24 rfl ?_
    refine gh_get C fB_15 hm.1 rfl dB_follow_25 ?_
    refine gh_callS C [.int (nI p)] (c_bit l d _ (nI p)) lB_73 wG_bit sG_bit rfl rfl (Nat.le_of_ble_eq_true rfl) ⟨Nat.le_of_ble_eq_true rfl, Nat.le_of_ble_eq_true rfl⟩ (Nat.le_of_ble_eq_true rfl) (Nat.le_of_ble_eq_true rfl) dB_follow_28 (fun v28 g28 h28 => ?_)
    obtain ⟨rfl, rfl⟩ := h28
    refine gh_iand C dB_follow_31 ?_
    refine gh_if_eq C 55 dB_follow_32 (by decide) (fun c32 => ?_) (fun c32 => ?_)
    ·
      have e : F = f := by rw [eF]; exact if_pos c32
      first | (rw [e, mst_self hm] at mid; exact mid) | (rw [e] at mid; rw [mst_f9 hm]; exact mid)
    ·
      have e : F = upd f 0 (K (2 * p)) := by rw [eF]; exact if_neg c32
      refine gh_aload_n C dB_follow_35 rfl ?_
      refine gh_get C fB_21 hm.1 rfl dB_follow_36 ?_
      refine gh_iconst C 0 dB_follow_39 (by decide) ?_
      refine gh_aload_n C dB_follow_40 rfl ?_
      refine gh_get C fB_46 he rfl dB_follow_41 ?_
      refine gh_aload_n C dB_follow_44 rfl ?_
      refine gh_get C fB_15 hm.1 rfl dB_follow_45 ?_
      refine gh_callS C [.int (nI p)] (c_leafNode l d _ (nI p)) lB_50 wG_leafNode sG_leafNode rfl rfl (Nat.le_of_ble_eq_true rfl) ⟨Nat.le_of_ble_eq_true rfl, Nat.le_of_ble_eq_true rfl⟩ (Nat.le_of_ble_eq_true rfl) (Nat.le_of_ble_eq_true rfl) dB_follow_48 (fun v48 g48 h48 => ?_)
      obtain ⟨rfl, rfl⟩ := h48
      rw [two_n p]
      refine gh_callV C [.int (nI (2 * p))] (c_keyOf l d _ hp (nI (2 * p))) lB_54 wT_keyOf vT_keyOf hp.1 rfl rfl rfl (Nat.le_of_ble_eq_true rfl) ⟨Nat.le_of_ble_eq_true rfl, Nat.le_of_ble_eq_true rfl⟩ (Nat.le_of_ble_eq_true rfl) (Nat.le_of_ble_eq_true rfl) dB_follow_51 (fun v51 g51 h51 => ?_)
      obtain ⟨rfl, rfl⟩ := h51
      rw [tkey_n hD hv]
      refine gh_iastN C (0) hm.2.1 rfl rfl ⟨by decide, by decide⟩ dB_follow_54 ?_
      first | (rw [e, mst_self hm] at mid; exact mid) | (rw [e] at mid; rw [mst_f9 hm]; exact mid)
  · exact absurd hrm c12
