theorem wf_noF {Y : SR} (hw : wfF Y) (hN : Y.1 1 ≤ 2600) {k : Int32} (h0 : k ≠ 0) (h1 : k ≠ 1) : noF Y k (nI (Y.1 1)) := by
  rintro i hi ⟨g1, g2, -⟩
  obtain ⟨b, hb, hq⟩ := hw i hi (by rw [g1]; exact h0) (by rw [g1]; exact h1)
  rw [hq] at g2
  have := (nI_eq (by omega) (by omega)).mp g2
  omega
theorem wf_noP {Y : SR} (hw : wfF Y) (hN : Y.1 1 ≤ 2600) {s : Nat} (hs : Y.1 1 = s + 2) (h3 : Y.2 2 (s + 1) = 3) : noF Y 2 (nI s) := by
  rintro i hi ⟨g1, g2, -⟩
  obtain ⟨b, hb, hq⟩ := hw i hi (by rw [g1]; decide) (by rw [g1]; decide)
  rw [hq] at g2
  have := (nI_eq (by omega) (by omega)).mp g2
  have e : i = s + 1 := by omega
  rw [e, h3] at g1
  exact absurd g1 (by decide)
theorem pa_step {S : SC} {T : SR} {e a D N0 : Nat} (h : PH S T e a D N0) {hh : Nat} (hlt : hh < D) {X : SC} {Y : SR} {p : Int32} (hA : PA S T e a D N0 hh X Y p) (hX : tq S X) (hY1 : ∀ f, f ≠ 1 → f ≠ 7 → Y.1 f = T.1 f) (hY2 : ∀ f, f = 13 ∨ f = 19 ∨ f = 37 ∨ f = 39 ∨ f = 40 → Y.2 f = T.2 f) : PA S T e a D N0 (hh + 1) (mpT X e a hh p).1 (rn1 Y e a hh p).1 (rn1 Y e a hh p).2 ∧ (mpT X e a hh p).2 = (rn1 Y e a hh p).2 ∧ rnP Y e a hh p := by
  have hPH := h
  obtain ⟨⟨ha, haD, he⟩, hTE, hTI, ⟨n1, n2, n3⟩, ⟨h9, h9b⟩, -, -, -, -, -, -, hKB, ⟨hp0, hpk⟩, h12, hb1, hb2⟩ := h
  obtain ⟨⟨a1, a1b, a1c⟩, aTE, a6, ⟨r1, ⟨r2, r2b⟩, r3, r4, r5⟩, ap, ⟨aw, aws⟩, aTI, aru, a10, aor, ⟨ae1, ae2, ae3⟩, asR, apt⟩ := hA
  have hD4 := hTI.1
  have hh4 : hh < 4 := by omega
  obtain ⟨sd1, sd2, sd3, sd4⟩ := sdn_d a ha hh hh4
  have sdw := sd_in D hD4 a haD hh hlt
  obtain ⟨v, ev⟩ : ∃ v, v = pn a (hh + 1) := ⟨_, rfl⟩
  have hv31 : v < 31 := by rw [ev]; exact pn_31 a ha (hh + 1) (by omega)
  have hvw : v < tW D := by rw [ev]; exact pn_w1 D hD4 (hh + 1) (by omega) a haD
  have hvh : hgt v = hh + 1 := by rw [ev]; exact hgt_pn (hh + 1) (by omega) a ha
  have hv2a : v ≠ 2 * a := fun h9 => by
    have := (by decide : ∀ l, l < 16 → hgt (2 * l) = 0) a ha
    rw [← h9, hvh] at this; omega
  have hvi : ∀ i, i ≤ hh → pn a i ≠ v := fun i hi h9 => by
    rw [ev] at h9
    have := pn_in a ha i (by omega) (hh + 1) (by omega) h9
    omega
  -- the resolution
  obtain ⟨L, eL⟩ : ∃ L, L = rsv (rK T e) (rU T e) hh (sdn a hh) := ⟨_, rfl⟩
  have side : ∀ r, inR hh (sdn a hh) r → r < 31 → rK Y e r = rK T e r ∧ rU Y e r = rU T e r := fun r hr h31 => r1 r h31 (fun i hi => sd_off ha hh4 hr i (by omega))
  have eLY : rnV Y e a hh = L := by
    rw [eL]; exact rsv_c hh (sdn a hh) (by omega) sd2 sd3 side
  have eLX : rsv (X.2.2 2 e) (X.2.2 4 e) hh (sdn a hh) = L := by
    rw [eL]
    refine rsv_c hh (sdn a hh) (by omega) sd2 sd3 (fun r hr h31 => ?_)
    rw [(aTE.2.2 r h31).1, (aTE.2.2 r h31).2.1]; exact side r hr h31
  have XTI : TI D (X.2.2 2 e) (X.2.2 4 e) := TI_c aTI (fun w hw => ⟨(aTE.2.2 w hw).1, (aTE.2.2 w hw).2.1⟩)
  obtain ⟨rc, erc⟩ : ∃ rc, rc = res (X.1 2 e) (X.2.2 2 e) (X.2.2 4 e) hh (sdn a hh) := ⟨_, rfl⟩
  have rcm : ∀ r, r < 32 → (tb rc r = true ↔ r ∈ L) := fun r hr => by
    rw [erc, aTE.1, res_m XTI hh (sdn a hh) r (by omega) sd2 sdw sd3 hr, eLX]
  have Lin : ∀ r, r ∈ L → inR hh (sdn a hh) r ∧ r < 31 ∧ rK T e r ≠ -1 := fun r hr => by
    rw [eL] at hr; exact rsv_in hTI hh (sdn a hh) r (by omega) sd2 sd3 hr
  have Lnd : L.Nodup := by rw [eL]; exact rsv_nd hTI hh (sdn a hh) (by omega) sd2 sd3
  have Lle : L.length ≤ 2 ^ (hh + 1) - 1 := by rw [eL]; exact rsv_le hTI hh (sdn a hh) (by omega) sd2 sd3
  have rc0 : rc = 0 ↔ L = [] := by
    constructor
    · intro h0
      cases hL : L with
      | nil => rfl
      | cons r M =>
        have hr : r ∈ L := by rw [hL]; simp
        have := (rcm r (by have := (Lin r hr).2.1; omega)).mpr hr
        rw [h0, tb_0] at this; cases this
    · intro h0
      apply i32_ext
      intro i hi
      rw [tb_0]
      cases hb : tb rc i with
      | false => rfl
      | true => have := (rcm i hi).mp hb; rw [h0] at this; simp at this
  have hp2 : 2 ^ (hh + 1 + 1) = 2 * 2 ^ (hh + 1) := by rw [Nat.pow_succ]; omega
  have hp16 : 2 ^ (hh + 1) ≤ 16 := by
    have : 2 ^ (hh + 1) ≤ 2 ^ 4 := Nat.pow_le_pow_right (by decide) (by omega)
    omega
  have hp1 := p2pos (hh + 1)
  have hN26 : Y.1 1 + 3 ≤ 2600 := by omega
  have prn : rnP Y e a hh p := by
    unfold rnP
    rw [eLY]
    refine ⟨by omega, fun _ => ⟨by omega, ?_, fun hpn => ?_, wf_noF aw (by omega) (by decide) (by decide)⟩⟩
    · have hx : hh = 0 ∨ hh = 1 ∨ hh = 2 ∨ hh = 3 := by omega
      rcases hx with hx | hx | hx | hx <;> subst hx <;> simp at Lle ae1 <;> omega
    · obtain ⟨s, hs, hs2, hs3, -⟩ := ap.resolve_left hpn
      rw [hs]; exact wf_noP aw (by omega) hs2 hs3
  have tqN : sN X = Y.1 1 := a1
  have emp : mpT X e a hh p = if rc = 0 then (gvS X e v (-1) (-1), p) else mpN (nxS X p) e a hh (nI (sN X)) := by rw [erc, ev]; rfl
  have ern : rn1 Y e a hh p = if L = [] then (blR Y e v, p) else (stR (mkR (rnB Y e v p L) 3 (nI (Y.1 1)) 0) e v (nI (Y.1 1 + 1)), nI (Y.1 1)) := by rw [← eLY, ev]; rfl
  rw [emp, ern]
  have cntv : tb (Y.2 16 e) v = false := by
    cases hb : tb (Y.2 16 e) v with
    | false => rfl
    | true =>
      obtain ⟨i, h1, h2, h3⟩ := r5 v (by omega) hb
      exact absurd h3.symm (hvi i h2)
  by_cases hL : L = []
  · rw [if_pos (rc0.mpr hL), if_pos hL]
    refine ⟨?_, rfl, prn⟩
    have bk := rK_bl Y e v
    have bf : ∀ f, f ≠ 22 → f ≠ 23 → (blR Y e v).2 f = Y.2 f := fun f k1 k2 => by simp [blR, ra, k1, k2]
    obtain ⟨Z, eZ⟩ : ∃ Z, Z = blR Y e v := ⟨_, rfl⟩
    have z1 : Z.1 = Y.1 := by rw [eZ]; rfl
    rw [← eZ] at bk bf ⊢
    have hLe : rsv (rK T e) (rU T e) hh (sdn a hh) = [] := by rw [← eL]; exact hL
    have zK : ∀ w, w ≠ v → rK Z e w = rK Y e w ∧ rU Z e w = rU Y e w := fun w hw => by rw [bk.1, bk.2]; simp [upd, hw]
    have zv : rK Z e v = -1 ∧ rU Z e v = 0 := by rw [bk.1, bk.2]; simp [upd]
    have z16 : Z.2 16 = Y.2 16 := bf 16 (by decide) (by decide)
    have z25 : Z.2 25 = Y.2 25 := bf 25 (by decide) (by decide)
    have epk : pkT S T e a (hh + 1) = pkT S T e a hh := by simp only [pkT]; rw [if_pos hLe]
    refine ⟨⟨by rw [z1]; exact a1, by rw [z1]; exact a1b, by rw [z1]; omega⟩, ?_, by rw [z16]; exact a6, ⟨fun w hw hn => ?_, ?_, fun i h1 h2 => ?_, fun i j h1 h2 h3 => ?_, fun w hw hb => ?_⟩, ?_, ⟨?_, ?_⟩, ?_, fun x y z => ?_, ?_, ?_, ⟨?_, ?_, fun i h1 h2 hb r hr hs => ?_⟩, ?_, fun i h1 h2 hn => ?_⟩
    · exact TE_gv aTE Z (by rw [bf 13 (by decide) (by decide)]; exact aTE.2.1) bk.1 bk.2 (fun w _ _ => by rw [bf 24 (by decide) (by decide)]) (by rw [if_pos rfl])
    · have hwv : w ≠ v := by rw [ev]; exact hn (hh + 1) (Nat.le_refl _)
      rw [(zK w hwv).1, (zK w hwv).2]
      exact r1 w hw (fun i hi => hn i (by omega))
    · rw [(zK _ (fun q => hv2a q.symm)).1, (zK _ (fun q => hv2a q.symm)).2]; exact ⟨r2, r2b⟩
    · by_cases e9 : i = hh + 1
      · rw [e9, ← ev]
        rw [z16]
        exact ⟨zv.2, Or.inl ⟨zv.1, cntv, hLe⟩⟩
      · have hne := hvi i (by omega)
        rw [(zK _ hne).1, (zK _ hne).2, z16, z1]
        exact r3 i h1 (by omega)
    · by_cases e9 : j = hh + 1
      · rw [e9, ← ev]; exact zv.1
      · rw [(zK _ (hvi i (by omega))).1, (zK _ (hvi j (by omega))).1] at h3
        rw [(zK _ (hvi j (by omega))).1]
        exact r4 i j h1 (by omega) h3
    · rw [z16] at hb
      obtain ⟨i, h1, h2, h3⟩ := r5 w hw hb
      exact ⟨i, h1, by omega, h3⟩
    · refine ap.imp id (fun ⟨s, q1, q2, q3, q4⟩ => ⟨s, q1, by rw [z1]; exact q2, by rw [bf 2 (by decide) (by decide)]; exact q3, q4⟩)
    · exact wf_sm aw (by rw [z1]) (bf 2 (by decide) (by decide)) (bf 3 (by decide) (by decide))
    · exact wfS_sm aws (by rw [z1]) (bf 2 (by decide) (by decide)) (bf 4 (by decide) (by decide))
    · rw [bk.1, bk.2]; exact TI_set aTI hv31 hvw (Or.inr (by omega))
    · have g1 : ruC (gvS X e v (-1) (-1)) x y z ↔ ruC X x y z := ru_same rfl rfl rfl rfl x y z
      rw [g1, aru, ruR_sm (X := Y) (T := Z) (by rw [z1]) (by rw [z1]) (fun f hf => bf f (by omega) (by omega)) x y z, z25]
      constructor
      · rintro (q | ⟨i, q1, q2, ⟨j, q3, q4⟩, q5⟩)
        · exact Or.inl q
        · exact Or.inr ⟨i, q1, q2, ⟨j, by omega, q4⟩, q5⟩
      · rintro (q | ⟨i, q1, q2, ⟨j, q3, q4, q6⟩, q5⟩)
        · exact Or.inl q
        · by_cases e9 : j = hh
          · subst e9; exact absurd hLe q4
          · exact Or.inr ⟨i, q1, q2, ⟨j, by omega, q4, q6⟩, q5⟩
    · rw [epk, bf 20 (by decide) (by decide)]; exact a10
    · exact ord_same rfl rfl rfl rfl rfl aor
    · rw [z1]; omega
    · exact ae2.trans (enx.sm (by rw [z1]) (fun f k1 k2 => bf f (by omega) (by omega)))
    · rw [z16] at hb
      by_cases e9 : i = hh + 1
      · rw [e9, ← ev, cntv] at hb; cases hb
      · obtain ⟨k, q1, q2, q3, q4⟩ := ae3 i h1 (by omega) hb r hr hs
        exact ⟨k, by rw [z1]; exact q1, by rw [bf 8 (by decide) (by decide)]; exact q2, by rw [bf 10 (by decide) (by decide)]; exact q3, by rw [bf 11 (by decide) (by decide)]; exact q4⟩
    · rw [epk, z1]; exact asR
    · by_cases e9 : i = hh + 1
      · rw [e9, Nat.add_sub_cancel] at hn; exact absurd hLe hn
      · obtain ⟨s, q1, q2⟩ := apt i h1 (by omega) hn
        exact ⟨s, by rw [z1]; exact q1, by rw [z25]; exact q2⟩
  · rw [if_neg (fun q => hL (rc0.mp q)), if_neg hL]
    refine ⟨?_, by rw [tqN]; rfl, prn⟩
    obtain ⟨s, es⟩ : ∃ s, s = Y.1 1 := ⟨_, rfl⟩
    rw [tqN, ← es]
    -- the class
    obtain ⟨X1, eX1⟩ : ∃ X1, X1 = nxS X p := ⟨_, rfl⟩
    have nxf := nx_f X p
    rw [← eX1] at nxf ⊢
    have x1r : X1.1 2 e = D ∧ X1.2.2 = X.2.2 := ⟨by rw [nxf.2.2.2.2.1]; exact aTE.1, nxf.2.2.2.2.2.2.1⟩
    obtain ⟨mask, em⟩ : ∃ mask, mask = res (X1.1 2 e) (X1.2.2 2 e) (X1.2.2 4 e) hh (sdn a hh) &&& (lns (X1.2.1 9 e) 16 ^^^ (-1)) := ⟨_, rfl⟩
    have emr : mask = rc &&& (lns (T.2 19 e) 16 ^^^ (-1)) := by
      rw [em, x1r.1, x1r.2, erc, aTE.1, nxf.2.2.2.2.2.2.2 9 (by decide) (by decide), hX.2.2.2.1 9 (by decide) (by decide) (by decide), h9]
    have mm : ∀ r, r < 32 → (tb mask r = true ↔ r ∈ L ∧ ¬ rsk T e r) := fun r hr => by
      rw [emr, tb_and, Bool.and_eq_true, rcm r hr, tb_not _ hr]
      constructor
      · rintro ⟨q1, q2⟩
        refine ⟨q1, fun q3 => ?_⟩
        have q4 := (and_bit' (by omega)).mp q3.2
        have q5 := (lns_m (u := T.2 19 e) hr 16 (Nat.le_refl _)).mpr ⟨r / 2, h9b _ (by omega) q4, q4, by have := q3.1; omega⟩
        rw [q5] at q2; cases q2
      · rintro ⟨q1, q2⟩
        refine ⟨q1, ?_⟩
        cases hb : tb (lns (T.2 19 e) 16) r with
        | false => rfl
        | true =>
          obtain ⟨l, q3, q4, q5⟩ := (lns_m hr 16 (Nat.le_refl _)).mp hb
          exact absurd ⟨by omega, (and_bit' (by omega)).mpr (by rw [show r / 2 = l by omega]; exact q4)⟩ q2
    have emp2 : (mpN X1 e a hh (nI s)).1 = st1 (gvS (dr2S (pkS (sndS X1 e mask (nI s) 31) e (selH (sndS X1 e mask (nI s) 31) hh (sdn a hh)) (nI s) (sP (sndS X1 e mask (nI s) 31))) (nI s) (-1)) e v (nI (sN (pkS (sndS X1 e mask (nI s) 31) e (selH (sndS X1 e mask (nI s) 31) hh (sdn a hh)) (nI s) (sP (sndS X1 e mask (nI s) 31))))) (nI e)) 6 e ((gvS (dr2S (pkS (sndS X1 e mask (nI s) 31) e (selH (sndS X1 e mask (nI s) 31) hh (sdn a hh)) (nI s) (sP (sndS X1 e mask (nI s) 31))) (nI s) (-1)) e v (nI (sN (pkS (sndS X1 e mask (nI s) 31) e (selH (sndS X1 e mask (nI s) 31) hh (sdn a hh)) (nI s) (sP (sndS X1 e mask (nI s) 31))))) (nI e)).2.1 6 e ||| bitN v) := by rw [em, ev]; rfl
    rw [emp2]
    obtain ⟨X2, eX2⟩ : ∃ X2, X2 = sndS X1 e mask (nI s) 31 := ⟨_, rfl⟩
    rw [← eX2]
    obtain ⟨X3, eX3⟩ : ∃ X3, X3 = pkS X2 e (selH X2 hh (sdn a hh)) (nI s) (sP X2) := ⟨_, rfl⟩
    rw [← eX3]
    have x1N : sN X1 = s + 1 := by rw [nxf.1, tqN, es]
    have sA := snd_A X1 e mask (nI s) 31 (Nat.le_refl _)
    rw [← eX2] at sA
    have sq2 := sq_snd X1 e mask (nI s) 31
    rw [← eX2] at sq2
    have pA := pk_A X2 e (selH X2 hh (sdn a hh)) (nI s) (sP X2)
    rw [← eX3] at pA
    have sq3 := sq_pk X2 e (selH X2 hh (sdn a hh)) (nI s) (sP X2)
    rw [← eX3] at sq3
    have sqA := (nxf.2.2.2.trans sq2)
    have sqB := sqA.trans sq3
    have x2N : sN X2 = s + 1 := by rw [sA.2.1]; exact x1N
    have x3N : sN X3 = s + 1 := by rw [pA.2.1]; exact x2N
    rw [x3N]
    have x2f : ∀ c, c ≠ 10 → c ≠ 6 → c < 21 → X2.2.1 c = S.2.1 c := fun c k1 k2 k3 => (sqA.2.2.2.2 c k1 k3).trans (hX.2.2.2.1 c k1 k2 k3)
    have x2P : sP X2 = sP S := (sqA.2.2.1 1 (by decide) (by decide)).trans (hX.2.2.1 1 (by decide) (by decide))
    have tkv : ∀ r, r ∈ L → tk (X1.1 2 e) (X1.2.2 2 e) r = rK T e r := fun r hr => by
      obtain ⟨q1, q2, q3⟩ := Lin r hr
      have hw : r < tW D := by
        by_cases h8 : r < tW D
        · exact h8
        · exact absurd ((hTI.2 r q2).1 (by omega)) q3
      unfold tk
      rw [x1r.1, x1r.2, if_pos hw, (aTE.2.2 r q2).1, (side r q1 q2).1]
    -- the reference
    obtain ⟨Y1, eY1⟩ : ∃ Y1, Y1 = nmR Y p := ⟨_, rfl⟩
    have nmf := nm_f Y p
    rw [← eY1] at nmf
    obtain ⟨Y2, eY2⟩ : ∃ Y2, Y2 = pcR Y1 e v (nI s) := ⟨_, rfl⟩
    have y2i : Y2.1 = Y1.1 := by rw [eY2]; rfl
    have y2f : ∀ f, f ≠ 16 → f ≠ 25 → Y2.2 f = Y1.2 f := fun f k1 k2 => by rw [eY2]; simp [pcR, ra, k1, k2]
    have y216 : Y2.2 16 = upd (Y.2 16) e (Y.2 16 e ||| bitN v) := by
      rw [eY2]; show upd (Y1.2 16) e (Y1.2 16 e ||| bitN v) = _
      rw [nmf.2.2 16 (by decide) (by decide) (by decide)]
    have y225 : Y2.2 25 = upd (Y.2 25) (31 * e + v) (nI s) := by
      rw [eY2]; show upd (Y1.2 25) (31 * e + v) (nI s) = _
      rw [nmf.2.2 25 (by decide) (by decide) (by decide)]
    obtain ⟨Y3, eY3⟩ : ∃ Y3, Y3 = rnB Y e v p L := ⟨_, rfl⟩
    have eY3' : Y3 = snR Y2 e v (nI s) L := by rw [eY3, eY2, eY1, es]; rfl
    rw [← eY3]
    have rbf := rnB_f Y e v p L
    rw [← eY3] at rbf
    have y2E : Y2.1 12 = e := by rw [y2i, nmf.1 12 (by decide), hY1 12 (by decide) (by decide)]; exact h12
    have nA := sn_A e v (nI s) L Y2 y2E
    rw [← eY3'] at nA
    have y2K : rK Y2 e = rK Y e := by funext w; simp only [rK]; rw [y2f 22 (by decide) (by decide), nmf.2.2 22 (by decide) (by decide) (by decide)]
    have y2sk : ∀ r, rsk Y2 e r ↔ rsk T e r := fun r => by
      unfold rsk; rw [y2f 19 (by decide) (by decide), nmf.2.2 19 (by decide) (by decide) (by decide), hY2 19 (by omega)]
    have y3N : Y3.1 1 = s + 1 := by rw [rbf.2.1, es]
    obtain ⟨Y4, eY4⟩ : ∃ Y4, Y4 = mkR Y3 3 (nI s) 0 := ⟨_, rfl⟩
    have m4 := mk_f Y3 3 (nI s) 0
    rw [← eY4] at m4 ⊢
    obtain ⟨Z, eZ⟩ : ∃ Z, Z = stR Y4 e v (nI (s + 1)) := ⟨_, rfl⟩
    have sf := st_f Y4 e v (nI (s + 1))
    have sk := rK_st Y4 e v (nI (s + 1))
    rw [← eZ] at sf sk ⊢
    have kK : rK Y4 e = rK Y e := by
      funext w; simp only [rK]; rw [m4.2.2 22 (by decide) (by decide) (by decide), rbf.2.2.1 22 (by decide) (by decide) (by decide) (by decide) (by decide) (by decide) (by decide) (by decide) (by decide) (by decide)]
    have kU : rU Y4 e = rU Y e := by
      funext w; simp only [rU]; rw [m4.2.2 23 (by decide) (by decide) (by decide), rbf.2.2.1 23 (by decide) (by decide) (by decide) (by decide) (by decide) (by decide) (by decide) (by decide) (by decide) (by decide)]
    rw [kK] at sk
    rw [kU] at sk
    have zN : Z.1 1 = s + 2 := by rw [sf.1, m4.2.1, y3N]
    have z7 : Z.1 7 = Y.1 7 + scN Y2 e L := by
      rw [sf.1, m4.1 7 (by decide), nA.1, y2i, nmf.1 7 (by decide)]
    have zf : ∀ f, f ≠ 2 → f ≠ 3 → f ≠ 4 → f ≠ 22 → f ≠ 23 → f ≠ 24 → Z.2 f = Y3.2 f := fun f k1 k2 k3 k4 k5 k6 => (sf.2 f k4 k5 k6).trans (m4.2.2 f k1 k2 k3)
    have snf := snR_f e v (nI s) L Y2
    rw [← eY3'] at snf
    have z16 : Z.2 16 = upd (Y.2 16) e (Y.2 16 e ||| bitN v) := by
      rw [zf 16 (by decide) (by decide) (by decide) (by decide) (by decide) (by decide), snf.2.1 16 (by decide) (by decide) (by decide) (by decide) (by decide)]; exact y216
    have z25 : Z.2 25 = upd (Y.2 25) (31 * e + v) (nI s) := by
      rw [zf 25 (by decide) (by decide) (by decide) (by decide) (by decide) (by decide), snf.2.1 25 (by decide) (by decide) (by decide) (by decide) (by decide)]; exact y225
    have z16e : Z.2 16 e = Y.2 16 e ||| bitN v := by rw [z16]; simp [upd]
    have z24 : ∀ w, w ≠ v → Z.2 24 (31 * e + w) = Y.2 24 (31 * e + w) := fun w hw => by
      rw [sk.2.2 w, if_neg hw, m4.2.2 24 (by decide) (by decide) (by decide), rbf.2.2.1 24 (by decide) (by decide) (by decide) (by decide) (by decide) (by decide) (by decide) (by decide) (by decide) (by decide)]
    have z13 : Z.2 13 e = nI D := by
      rw [zf 13 (by decide) (by decide) (by decide) (by decide) (by decide) (by decide), rbf.2.2.1 13 (by decide) (by decide) (by decide) (by decide) (by decide) (by decide) (by decide) (by decide) (by decide) (by decide), hY2 13 (by omega)]; exact hTE.2.1
    have zK : ∀ w, w ≠ v → rK Z e w = rK Y e w ∧ rU Z e w = rU Y e w := fun w hw => by rw [sk.1, sk.2.1]; simp [upd, hw]
    have zv : rK Z e v = nI (s + 1) ∧ rU Z e v = 0 := by rw [sk.1, sk.2.1]; simp [upd]
    have hLe : rsv (rK T e) (rU T e) hh (sdn a hh) ≠ [] := by rw [← eL]; exact hL
    have hsp : p = -1 ∨ ∃ q, p = nI q ∧ q < Y.1 1 := ap.imp id (fun ⟨q, q1, q2, _, _⟩ => ⟨q, q1, by omega⟩)
    have nru := nx_ru X Y p a1 hsp
    rw [← eX1, ← eY1] at nru
    have wf1 := nru.2.2.2.1 aw
    have wS1 := nru.2.2.2.2 aws
    have s3 : ∀ f, f = 2 ∨ f = 3 ∨ f = 4 → Y3.2 f = Y1.2 f := fun f hf => by
      rw [snf.2.1 f (by omega) (by omega) (by omega) (by omega) (by omega)]; exact y2f f (by omega) (by omega)
    have y3N' : Y3.1 1 = Y1.1 1 := by rw [y3N, nmf.2.1, es]
    have wf3 : wfF Y3 := wf_sm wf1 y3N' (s3 2 (by omega)) (s3 3 (by omega))
    have wS3 : wfS Y3 := wfS_sm wS1 y3N' (s3 2 (by omega)) (s3 4 (by omega))
    have wf4 : wfF Y4 := by rw [eY4]; exact wf_mk wf3 (by omega)
    have wS4 : wfS Y4 := by rw [eY4]; exact wfS_mk wS3 0 (Or.inl (by decide))
    have ecnt : bcN mask 31 = scN Y2 e L := by
      unfold bcN scN
      refine nd_eq (List.Pairwise.filter _ List.nodup_range) (List.Pairwise.filter _ Lnd) (fun r => ?_)
      rw [List.mem_filter, List.mem_filter, List.mem_range]
      constructor
      · rintro ⟨q1, q2⟩
        obtain ⟨q3, q4⟩ := (mm r (by omega)).mp q2
        exact ⟨q3, by simp only [decide_eq_true_eq]; exact fun q5 => q4 ((y2sk r).mp q5)⟩
      · rintro ⟨q1, q2⟩
        simp only [decide_eq_true_eq] at q2
        have := (Lin r q1).2.1
        exact ⟨this, (mm r (by omega)).mpr ⟨q1, fun q5 => q2 ((y2sk r).mpr q5)⟩⟩
    have epc : pcN X2 e (selH X2 hh (sdn a hh)) (sP X2) = pcN S e (selH S hh (sdn a hh)) (sP S) := by
      rw [x2P]
      exact pcN_c (x2f 14 (by decide) (by decide) (by decide)) (by funext i; unfold selH; rw [x2f 15 (by decide) (by decide) (by decide)]) _
    have epk : pkT S T e a (hh + 1) = pkT S T e a hh + pcN S e (selH S hh (sdn a hh)) (sP S) := by simp only [pkT]; rw [if_neg hLe]
    obtain ⟨X4, eX4⟩ : ∃ X4, X4 = dr2S X3 (nI s) (-1) := ⟨_, rfl⟩
    rw [← eX4]
    have sq4 := sqB.trans (sq_dr2 X3 (nI s) (-1))
    rw [← eX4] at sq4
    have x46 : X4.2.1 6 e = Y.2 16 e := by rw [sq4.2.2.2.2 6 (by decide) (by decide)]; exact a6
    have aTE4 : TE X4 Y e e D := ⟨by rw [sq4.2.1]; exact aTE.1, aTE.2.1, by rw [sq4.2.2.2.1]; exact aTE.2.2⟩
    have x4R : sR X4 = sR X3 + 1 := by rw [eX4]; simp [dr2S, frS, tieS, sv1, sR, stN]
    have x4N : sN X4 = s + 2 := by
      have q : sN (dr2S X3 (nI s) (-1)) = sN X3 + 1 := by simp [dr2S, frS, tieS, sv1, sN, stN]
      rw [eX4, q, x3N]
    have x410 : X4.2.1 10 e = X3.2.1 10 e := by rw [eX4]; simp [dr2S, frS, tieS, sv1, stN]
    obtain ⟨X6, eX6⟩ : ∃ X6, X6 = st1 (gvS X4 e v (nI (s + 1)) (nI e)) 6 e ((gvS X4 e v (nI (s + 1)) (nI e)).2.1 6 e ||| bitN v) := ⟨_, rfl⟩
    rw [← eX6]
    have g5 := gv_K X4 e v (nI (s + 1)) (nI e)
    have x6TE : TE X6 Z e e D := by
      have := TE_gv (k := nI (s + 1)) aTE4 (b := nI e) Z z13 sk.1 sk.2.1 (fun w _ hw => z24 w hw) (by rw [if_neg (nI_ne1 (by omega)), sk.2.2, if_pos rfl])
      rw [eX6]; exact this
    have bits : ∀ w, w < 32 → (tb (Z.2 16 e) w = true ↔ tb (Y.2 16 e) w = true ∨ w = v) := fun w hw => by
      rw [z16e, tb_or, tb_bit (by omega) hw, Bool.or_eq_true, decide_eq_true_eq]
    have enxZ : enx Y Z := by
      refine ⟨by rw [z7]; omega, fun f k1 k2 k hk => ?_⟩
      rw [zf f (by omega) (by omega) (by omega) (by omega) (by omega) (by omega), nA.2.2.2.1.2 f k1 k2 k (by rw [y2i, nmf.1 7 (by decide)]; exact hk), y2f f (by omega) (by omega), nmf.2.2 f (by omega) (by omega) (by omega)]
    have z37 : Z.1 7 = Y3.1 7 := by rw [sf.1, m4.1 7 (by decide)]
    show PA S T e a D N0 (hh + 1) X6 Z (nI s)
    refine ⟨⟨?_, by omega, by omega⟩, x6TE, ?_, ⟨fun w hw hn => ?_, ?_, fun i h1 h2 => ?_, fun i j h1 h2 h3 => ?_, fun w hw hb => ?_⟩, Or.inr ⟨s, rfl, zN, ?_, ?_⟩, ⟨?_, ?_⟩, ?_, fun x y z => ?_, ?_, ?_, ⟨?_, ae2.trans enxZ, fun i h1 h2 hb r hr hs => ?_⟩, ?_, fun i h1 h2 hn => ?_⟩
    · rw [zN, ← x4N, eX6]; rfl
    · rw [z16e, eX6]; simp only [st1]; rw [if_pos ⟨trivial, trivial⟩, g5.2.2.2.2, x46]
    · have hwv : w ≠ v := by rw [ev]; exact hn (hh + 1) (Nat.le_refl _)
      rw [(zK w hwv).1, (zK w hwv).2]
      exact r1 w hw (fun i hi => hn i (by omega))
    · rw [(zK _ (fun q => hv2a q.symm)).1, (zK _ (fun q => hv2a q.symm)).2]; exact ⟨r2, r2b⟩
    · by_cases e9 : i = hh + 1
      · rw [e9, ← ev, Nat.add_sub_cancel]
        exact ⟨zv.2, Or.inr ⟨s + 1, zv.1, by omega, by omega, (bits v (by omega)).mpr (Or.inr rfl), hLe⟩⟩
      · have hne := hvi i (by omega)
        rw [(zK _ hne).1, (zK _ hne).2]
        obtain ⟨q1, q2⟩ := r3 i h1 (by omega)
        refine ⟨q1, q2.imp (fun ⟨w1, w2, w3⟩ => ⟨w1, ?_, w3⟩) (fun ⟨k, w1, w2, w3, w4, w5⟩ => ⟨k, w1, w2, by omega, (bits _ (by have := pn_31 a ha i (by omega); omega)).mpr (Or.inl w4), w5⟩)⟩
        cases hb : tb (Z.2 16 e) (pn a i) with
        | false => rfl
        | true =>
          rcases (bits _ (by have := pn_31 a ha i (by omega); omega)).mp hb with q | q
          · rw [w2] at q; cases q
          · exact absurd q hne
    · by_cases e9 : j = hh + 1
      · rw [e9, ← ev, zv.1] at h3
        rw [(zK _ (hvi i (by omega))).1] at h3
        exfalso
        by_cases e8 : i = 0
        · rw [e8, pn_0, r2] at h3
          have := (nI_eq (by omega) (by omega)).mp h3
          omega
        · rcases (r3 i (by omega) (by omega)).2 with ⟨w1, -, -⟩ | ⟨k, w1, w2, w3, -, -⟩
          · rw [w1] at h3; exact absurd h3.symm (nI_ne1 (by omega))
          · rw [w1] at h3
            have := (nI_eq (by omega) (by omega)).mp h3
            omega
      · rw [(zK _ (hvi i (by omega))).1, (zK _ (hvi j (by omega))).1] at h3
        rw [(zK _ (hvi j (by omega))).1]
        exact r4 i j h1 (by omega) h3
    · rcases (bits w hw).mp hb with q | q
      · obtain ⟨i, h1, h2, h3⟩ := r5 w hw q
        exact ⟨i, h1, by omega, h3⟩
      · exact ⟨hh + 1, by omega, Nat.le_refl _, by rw [← ev]; exact q⟩
    · rw [sf.2 2 (by decide) (by decide) (by decide), eY4]; simp [mkR, ra, ri, upd, y3N]
    · omega
    · exact wf_sm wf4 (by rw [sf.1]) (sf.2 2 (by decide) (by decide) (by decide)) (sf.2 3 (by decide) (by decide) (by decide))
    · exact wfS_sm wS4 (by rw [sf.1]) (sf.2 2 (by decide) (by decide) (by decide)) (sf.2 4 (by decide) (by decide) (by decide))
    · rw [sk.1, sk.2.1]; exact TI_set aTI hv31 hvw (Or.inr (by omega))
    · have g1 : ruC X6 x y z ↔ ruC X4 x y z := by
        rw [eX6]; exact ru_same rfl rfl rfl rfl x y z
      have g2 : ruC X4 x y z ↔ ruC X3 x y z ∨ (x = nI s ∧ y = -1 ∧ z = nI (s + 1)) := by
        rw [eX4]; unfold dr2S; rw [ru_tie, ru_fr, x3N]
      have g3 : ruR Z x y z ↔ ruR Y4 x y z := ruR_sm (by rw [sf.1]) (by rw [sf.1]) (fun f hf => sf.2 f (by omega) (by omega) (by omega)) x y z
      have g4 : ruR Y4 x y z ↔ ruR Y3 x y z ∨ (x = nI s ∧ y = -1 ∧ z = nI (s + 1)) := by
        rw [eY4, ru_mk, y3N]
        constructor
        · rintro (q | ⟨-, -, q1, q2, q3⟩)
          · exact Or.inl q
          · rcases q3 with q3 | q3
            · exact absurd q3.1 (by decide)
            · exact Or.inr ⟨q2, q3.2, q1⟩
        · rintro (q | ⟨q1, q2, q3⟩)
          · exact Or.inl q
          · exact Or.inr ⟨by decide, by decide, q3, q1, Or.inr ⟨by decide, q2⟩⟩
      have g6 : ruR Y2 x y z ↔ ruR Y1 x y z := ruR_sm (by rw [y2i]) (by rw [y2i]) (fun f hf => y2f f (by omega) (by omega)) x y z
      have snd : (∃ i, i < 31 ∧ tb mask i = true ∧ x = tk (X1.1 2 e) (X1.2.2 2 e) i ∧ y = -1 ∧ z = nI s) ↔ ∃ r, r ∈ L ∧ ¬ rsk Y2 e r ∧ x = rK Y2 e r ∧ y = -1 ∧ z = nI s := by
        constructor
        · rintro ⟨i, q1, q2, q3, q4⟩
          obtain ⟨q5, q6⟩ := (mm i (by omega)).mp q2
          refine ⟨i, q5, fun q7 => q6 ((y2sk i).mp q7), ?_, q4⟩
          rw [q3, tkv i q5, y2K, (side i (Lin i q5).1 (Lin i q5).2.1).1]
        · rintro ⟨r, q1, q2, q3, q4⟩
          have h31 := (Lin r q1).2.1
          refine ⟨r, h31, (mm r (by omega)).mpr ⟨q1, fun q7 => q2 ((y2sk r).mpr q7)⟩, ?_, q4⟩
          rw [q3, tkv r q1, y2K, (side r (Lin r q1).1 h31).1]
      rw [g1, g2, pA.2.2.2.1, sA.2.2.2.1, snd, nru.1, aru, g3, g4, nA.2.2.1, g6, nru.2.1]
      have pk : (∃ i, i < sP X2 ∧ (X2.2.1 14 i = nI e ∧ selH X2 hh (sdn a hh) i = true) ∧ x = X2.2.1 12 i ∧ y = -1 ∧ z = nI s) ↔ ∃ i, i < T.1 35 ∧ T.2 39 i = nI e ∧ (pn (T.2 40 i).toNatClampNeg hh = sdn a hh ∧ z = nI s) ∧ x = T.2 37 i ∧ y = -1 := by
        rw [x2P, hp0]
        constructor
        · rintro ⟨i, q1, ⟨q2, q3⟩, q4, q5, q6⟩
          obtain ⟨w1, w2, w3, w4⟩ := hpk i q1
          rw [x2f 14 (by decide) (by decide) (by decide), w1] at q2
          unfold selH at q3
          rw [x2f 15 (by decide) (by decide) (by decide), (w4 q2).1, decide_eq_true_eq] at q3
          rw [x2f 12 (by decide) (by decide) (by decide), w2] at q4
          exact ⟨i, q1, q2, ⟨q3, q6⟩, q4, q5⟩
        · rintro ⟨i, q1, q2, ⟨q3, q6⟩, q4, q5⟩
          obtain ⟨w1, w2, w3, w4⟩ := hpk i q1
          refine ⟨i, q1, ⟨?_, ?_⟩, ?_, q5, q6⟩
          · rw [x2f 14 (by decide) (by decide) (by decide), w1]; exact q2
          · unfold selH
            rw [x2f 15 (by decide) (by decide) (by decide), (w4 q2).1, decide_eq_true_eq]; exact q3
          · rw [x2f 12 (by decide) (by decide) (by decide), w2]; exact q4
      rw [pk]
      have pkz : (∃ i, i < T.1 35 ∧ T.2 39 i = nI e ∧ (∃ j, j < hh + 1 ∧ rsv (rK T e) (rU T e) j (sdn a j) ≠ [] ∧ pn (T.2 40 i).toNatClampNeg j = sdn a j ∧ z = Z.2 25 (31 * e + pn a (j + 1))) ∧ x = T.2 37 i ∧ y = -1) ↔ (∃ i, i < T.1 35 ∧ T.2 39 i = nI e ∧ (∃ j, j < hh ∧ rsv (rK T e) (rU T e) j (sdn a j) ≠ [] ∧ pn (T.2 40 i).toNatClampNeg j = sdn a j ∧ z = Y.2 25 (31 * e + pn a (j + 1))) ∧ x = T.2 37 i ∧ y = -1) ∨ ∃ i, i < T.1 35 ∧ T.2 39 i = nI e ∧ (pn (T.2 40 i).toNatClampNeg hh = sdn a hh ∧ z = nI s) ∧ x = T.2 37 i ∧ y = -1 := by
        have z25v : Z.2 25 (31 * e + pn a (hh + 1)) = nI s := by rw [z25, ← ev]; simp [upd]
        have z25o : ∀ j, j < hh → Z.2 25 (31 * e + pn a (j + 1)) = Y.2 25 (31 * e + pn a (j + 1)) := fun j hj => by
          rw [z25]; simp only [upd]; rw [if_neg (fun q => hvi (j + 1) (by omega) (by omega))]
        constructor
        · rintro ⟨i, q1, q2, ⟨j, q3, q4, q6, q7⟩, q5⟩
          by_cases e9 : j = hh
          · subst e9; rw [z25v] at q7; exact Or.inr ⟨i, q1, q2, ⟨q6, q7⟩, q5⟩
          · rw [z25o j (by omega)] at q7; exact Or.inl ⟨i, q1, q2, ⟨j, by omega, q4, q6, q7⟩, q5⟩
        · rintro (⟨i, q1, q2, ⟨j, q3, q4, q6, q7⟩, q5⟩ | ⟨i, q1, q2, ⟨q6, q7⟩, q5⟩)
          · exact ⟨i, q1, q2, ⟨j, by omega, q4, q6, by rw [z25o j q3]; exact q7⟩, q5⟩
          · exact ⟨i, q1, q2, ⟨hh, by omega, hLe, q6, by rw [z25v]; exact q7⟩, q5⟩
      rw [pkz]
      generalize ruR Y x y z = A1
      generalize (∃ i, i < T.1 35 ∧ T.2 39 i = nI e ∧ (∃ j, j < hh ∧ rsv (rK T e) (rU T e) j (sdn a j) ≠ [] ∧ pn (T.2 40 i).toNatClampNeg j = sdn a j ∧ z = Y.2 25 (31 * e + pn a (j + 1))) ∧ x = T.2 37 i ∧ y = -1) = A2
      generalize (p ≠ -1 ∧ x = p ∧ y = -1 ∧ z = nI (Y.1 1)) = A3
      generalize (∃ r, r ∈ L ∧ ¬ rsk Y2 e r ∧ x = rK Y2 e r ∧ y = -1 ∧ z = nI s) = A4
      generalize (∃ i, i < T.1 35 ∧ T.2 39 i = nI e ∧ (pn (T.2 40 i).toNatClampNeg hh = sdn a hh ∧ z = nI s) ∧ x = T.2 37 i ∧ y = -1) = A5
      generalize (x = nI s ∧ y = -1 ∧ z = nI (s + 1)) = A6
      constructor
      · rintro (((((q | q) | q) | q) | q) | q)
        · exact Or.inl (Or.inl (Or.inl (Or.inl q)))
        · exact Or.inr (Or.inl q)
        · exact Or.inl (Or.inl (Or.inl (Or.inr q)))
        · exact Or.inl (Or.inl (Or.inr q))
        · exact Or.inr (Or.inr q)
        · exact Or.inl (Or.inr q)
      · rintro ((((q | q) | q) | q) | (q | q))
        · exact Or.inl (Or.inl (Or.inl (Or.inl (Or.inl q))))
        · exact Or.inl (Or.inl (Or.inl (Or.inr q)))
        · exact Or.inl (Or.inl (Or.inr q))
        · exact Or.inr q
        · exact Or.inl (Or.inl (Or.inl (Or.inl (Or.inr q))))
        · exact Or.inl (Or.inr q)
    · have q1 : X6.2.1 10 e = X3.2.1 10 e := by rw [eX6]; simp only [st1]; rw [if_neg (by omega), g5.2.2.2.2]; exact x410
      rw [q1, pA.2.2.1, sA.2.2.1, nxf.2.1, a10, zf 20 (by decide) (by decide) (by decide) (by decide) (by decide) (by decide), nA.2.1, y2f 20 (by decide) (by decide), nmf.2.2 20 (by decide) (by decide) (by decide), epk, epc, ecnt, ← nI_add]
      ac_rfl
    · have o1 := nru.2.2.1 aor
      have o2 := sA.2.2.2.2 o1 s rfl (by rw [x1N]) (fun i hi hb => by
        obtain ⟨q5, -⟩ := (mm i (by omega)).mp hb
        obtain ⟨w1, w2, w3⟩ := Lin i q5
        rw [tkv i q5]
        obtain ⟨k, w4, w5⟩ := (hKB i w2).resolve_left w3
        exact ⟨k, by omega, w5⟩)
      have o3 := pA.2.2.2.2 o2 s rfl (by rw [x2N]) (fun i hi _ => by
        rw [x2P, hp0] at hi
        obtain ⟨w1, w2, ⟨k, w3, w4⟩, -⟩ := hpk i hi
        rw [x2f 12 (by decide) (by decide) (by decide), w2]
        exact ⟨k, by omega, w4⟩)
      have o4 : ordC X4 := by
        rw [eX4]; unfold dr2S
        rw [x3N]
        exact ord_tie (ord_fr o3) (by omega) (by rw [show sN (frS X3) = sN X3 + 1 by simp [frS, sN, stN], x3N]) (Or.inl rfl)
      rw [eX6]
      exact ord_same rfl rfl rfl rfl rfl o4
    · have hsc : scN Y2 e L ≤ L.length := List.length_filter_le _ _
      rw [z7]; omega
    · rcases (bits _ (by have := pn_31 a ha i (by omega); omega)).mp hb with q | q
      · by_cases e9 : i = hh + 1
        · rw [e9, ← ev, cntv] at q; cases q
        · obtain ⟨k, q1, q2, q3, q4⟩ := ae3 i h1 (by omega) q r hr hs
          exact ⟨k, by have := enxZ.1; omega, by rw [enxZ.2 8 (by decide) (by decide) k q1]; exact q2, by rw [enxZ.2 10 (by decide) (by decide) k q1]; exact q3, by rw [enxZ.2 11 (by decide) (by decide) k q1]; exact q4⟩
      · have e9 : i = hh + 1 := by
          by_cases e8 : i = hh + 1
          · exact e8
          · exact absurd q (hvi i (by omega))
        subst e9
        rw [Nat.add_sub_cancel, ← eL] at hr
        obtain ⟨k, q1, q2, q3, q4⟩ := nA.2.2.2.2.1 r hr (fun q7 => hs ((y2sk r).mp q7))
        rw [y2K, (side r (Lin r hr).1 (Lin r hr).2.1).1] at q2
        exact ⟨k, by rw [z37]; exact q1, by rw [zf 8 (by decide) (by decide) (by decide) (by decide) (by decide) (by decide)]; exact q2, by rw [zf 10 (by decide) (by decide) (by decide) (by decide) (by decide) (by decide)]; exact q3, by rw [zf 11 (by decide) (by decide) (by decide) (by decide) (by decide) (by decide), ← ev]; exact q4⟩
    · have q1 : sR X6 = sR X3 + 1 := by rw [eX6, ← x4R]; rfl
      have q2 := nxf.2.2.1
      have q3 := pA.1
      have q4 := sA.1
      rw [epc] at q3
      rw [ecnt] at q4
      rw [epk, zN, z7]
      omega
    · by_cases e9 : i = hh + 1
      · refine ⟨s, by omega, ?_⟩
        rw [e9, ← ev, z25]; simp [upd]
      · obtain ⟨q, q1, q2⟩ := apt i h1 (by omega) hn
        refine ⟨q, by omega, ?_⟩
        rw [z25]; simp only [upd]
        rw [if_neg (fun q => hvi i (by omega) (by omega))]; exact q2
