/-! THE LAW'S START: what the tables say at its entry, and the walk to its loop -/
theorem kn_c {s : State} {a0 : Array Value} (hts : ∀ w ∈ gh_T, w.before a0 s = true) {own : String} {index ci n : Nat} {fs : List Value} (h : gh_N own index ci n fs) : ∃ (cC : ClassId) (iS : Nat → Nat), ∀ q : vw_C, gh_cl[ci]? = some q → u_Kn s q.1 q.2.1 q.2.2 cC iS := by
  obtain ⟨r, ty, h1, h2, h3, -, -, h6, -⟩ := h
  obtain ⟨cC, iS, h⟩ := u_known hts h3 (hts _ h6)
  exact ⟨cC, iS, fun q hq => by cases h1.symm.trans hq; exact h⟩
theorem kn_k {s : State} {a0 : Array Value} (hts : ∀ w ∈ gh_T, w.before a0 s = true) (c : Nat) : ∃ (cC : ClassId) (iS : Nat → Nat), ∀ q : vw_C, gh_cl[c]? = some q → u_Kn s q.1 q.2.1 q.2.2 cC iS :=
  match c with
  | 0 => kn_c hts zL_8
  | 1 => kn_c hts zG_9
  | 2 => kn_c hts zG_16
  | 3 => kn_c hts zG_22
  | 4 => kn_c hts zG_54
  | 5 => kn_c hts zG_28
  | 6 => kn_c hts zG_34
  | 7 => kn_c hts zL_38
  | _ + 8 => ⟨0, fun _ => 0, fun q h => by cases h⟩
theorem kn_p {s : State} {a0 : Array Value} (hts : ∀ w ∈ gh_T, w.before a0 s = true) {ty : FieldType} (hw : Cond.arrayClass ty ∈ gh_T) (hr : ∀ cA : ClassId, s.vm.findClass ("[" ++ ty.toString) = some cA → va_RA s cA ty) : ∃ cA : ClassId, ∀ t : FieldType, some ty = some t → ArrOfT s cA t ∧ va_RA s cA t := by
  obtain ⟨c, k, comp, h1, h2, h3⟩ := Cond.arrayClass_spec (hts _ hw)
  exact ⟨c, fun t h => by cases h; exact ⟨fun n z => ⟨fun j h => (by cases h), k, h2, comp, h3⟩, hr c h1⟩⟩
theorem kn_o {s : State} {a0 : Array Value} (hts : ∀ w ∈ lw_tbl, w.before a0 s = true) {C : String} (hw : Cond.arrayOver (.object C) ∈ gh_nw) : ∃ cA : ClassId, ∀ t : FieldType, some (FieldType.object C) = some t → ArrOfT s cA t ∧ va_RA s cA t := by
  obtain ⟨comp, c, k, h1, -, h2, h3, h4⟩ := Cond.arrayOver_spec (hts _ (gh_nw_in _ hw))
  exact ⟨c, fun t h => by cases h; exact ⟨fun n z => ⟨fun j h => (by cases h), k, h2, comp, h3⟩, k, comp, h2, h3, h1, h4⟩⟩
theorem kn_a {s : State} {a0 : Array Value} (hts : ∀ w ∈ lw_tbl, w.before a0 s = true) (c : Nat) : ∃ cA : ClassId, ∀ t : FieldType, gh_ty[c]? = some t → ArrOfT s cA t ∧ va_RA s cA t :=
  have hg : ∀ w ∈ gh_T, w.before a0 s = true := fun w hw => hts w (List.mem_filter.mp hw).1
  match c with
  | 0 => kn_p hg ac_0 (fun _ h => h)
  | 1 => kn_p hg ac_1 (fun _ h => h)
  | 2 => kn_p hg ac_2 (fun _ h => h)
  | 3 => kn_p hg ac_3 (fun _ h => h)
  | 4 => kn_o hts nw_4
  | 5 => kn_o hts nw_5
  | 6 => kn_o hts nw_6
  | 7 => kn_o hts nw_7
  | _ + 8 => ⟨0, fun t h => by cases h⟩
theorem kn_all {s : State} {a0 : Array Value} (hts : ∀ w ∈ lw_tbl, w.before a0 s = true) : ∃ d : gh_D, d.2.2 = s.heap ∧ gh_Kn d s := by
  have hg : ∀ w ∈ gh_T, w.before a0 s = true := fun w hw => hts w (List.mem_filter.mp hw).1
  refine ⟨((fun c => (kn_k hg c).choose, fun c => (kn_k hg c).choose_spec.choose), fun c => (kn_a hts c).choose, s.heap), rfl, ⟨fun c q hq => (kn_k hg c).choose_spec.choose_spec q hq, fun k q hk => by cases hk⟩, fun k ty hk => (kn_a hts k).choose_spec ty hk, fun w hw => ?_⟩
  have h := gh_nw_ok w hw
  have hb := hts w (gh_nw_in w hw)
  unfold gh_nest at h
  split at h
  · exact va_Nw.of rfl hb
  · exact va_Nw.of rfl hb
  · exact va_AO.of hb
  · exact va_Nw.of rfl hb
  · cases h
theorem tz_st {s U2 : State} {a0 a : Array Value} {o n ds : String} (hl : (Cond.laysStatic o n ds).before a0 s = true) (hr : (Cond.isRef (.static o n ds)).before a0 s = true) (hW : s.WarmedH U2.vm) (hh : ∀ q : Nat, q < s.heap.size → U2.heap[q]? = s.heap[q]?) : (Cond.laysStatic o n ds).before a U2 = true ∧ (Cond.isRef (.static o n ds)).before a U2 = true := by
  obtain ⟨c, k, i, f, ad, cell, hc, hi, hst, ha, hcell, hs, hcls, hlt, hty⟩ := Cond.laysStatic_spec hl
  obtain ⟨k', hi', hek⟩ := State.fieldFound?_setVm hW.alike hi
  have hU : U2.fieldFound? o n ds = some (c, k', i, f) := hi'
  have hadl : ad < s.heap.size := (Array.getElem?_eq_some_iff.mp hcell).1
  have hcell' : U2.heap[ad]? = some cell := (hh ad hadl).trans hcell
  obtain ⟨v, hv, hvr⟩ := Cond.isRef_spec hr
  have hslot : cell.slots[f.slot]? = some v := by simpa [Term.eval, State.fieldNamed?, hi, hst, ha, hcell, hs] using hv
  have hst' : k'.statics = some ad := by rw [hek]; exact ha
  refine ⟨Cond.laysStatic_of (s := U2) (by rw [hW.alike.findClass]; exact hc) hU hst hst' hcell' hs hcls hlt (by rw [hek]; exact hty), ?_⟩
  have hev := Term.static_eval (s := U2) (args := a) (first := U2) (o := none) (idx := []) hU hst hst' hcell' hs hslot
  cases v <;> simp [Value.isRef] at hvr <;> simp [Cond.before, Cond.holds, Cond.value, hev]
theorem tz_all {s : State} {a0 : Array Value} {d : gh_D} (hd : d.2.2 = s.heap) (hts : ∀ w ∈ lw_tbl, w.before a0 s = true) (hgv : (Jvm.Cond.and given_1 narrow_1).before a0 s = true) : gh_Tz d s := by
  intro U2 hW _ hh a
  rw [hd] at hh
  have hf := flat_of_before _ hgv
  have h1 := tz_st (a := a) (hts (Cond.laysStatic Bundle.tN "UNASSIGNED_STACK" Bundle.steD) (List.mem_of_getElem? (i := 424) (by decide +kernel))) (hf (Cond.isRef (.static Bundle.tN "UNASSIGNED_STACK" Bundle.steD)) (by decide +kernel)) hW hh
  have h2 := tz_st (a := a) (hts (Cond.laysStatic Bundle.tN "SUPPRESSED_SENTINEL" Bundle.listD) (List.mem_of_getElem? (i := 426) (by decide +kernel))) (hf (Cond.isRef (.static Bundle.tN "SUPPRESSED_SENTINEL" Bundle.listD)) (by decide +kernel)) hW hh
  exact ⟨h1.1, h2.1, h1.2, h2.2⟩
theorem nc_all {s : State} {a0 : Array Value} (hts : ∀ w ∈ lw_tbl, w.before a0 s = true) (hgv : (Jvm.Cond.and given_1 narrow_1).before a0 s = true) : gh_Nc s := by
  have hf := flat_of_before _ hgv
  obtain ⟨c1, -, h1, -, -⟩ := Cond.castable_spec (hts _ (gh_nw_in _ tx_Il.2.2.2.1))
  obtain ⟨c2, -, h2, -, -⟩ := Cond.castable_spec (hts _ (gh_nw_in _ tx_In.2.2.2.1))
  have h3 := Cond.holds_not_iff.mp (hf (Cond.not (Cond.castable xIL xIO)) (by decide +kernel))
  refine ⟨c1, c2, h1, h2, ?_⟩
  have h1' : s.vm.findClass xIL = some c1 := h1
  have h2' : s.vm.findClass xIO = some c2 := h2
  simpa [Cond.value, h1', h2'] using h3
theorem lb_0 : LB s0 512 (601024 - 1 - 70 - 1 - 44 - 1) (7293033 - 10 - 2000 - 52 - 38008 - 1) := by
  have h : sE s0 = 1 := rfl
  refine ⟨?_, ?_⟩
  · rw [h]; decide
  · rw [h]; omega
set_option maxRecDepth 100000 in
set_option maxHeartbeats 4000000 in
theorem lw_begin {l : Launch} {d : gh_D} {z : gh_Z} {nm : String} {b L : Nat} {xs : Nat → Int32} (C : gh_X d z (lwM nm) room_1) (hZ : gh_ZC d z) (hX : gh_SX d z b L xs) (hL : L ≤ 2048) (htr : l.flags = pinnedFlags ++ [noTraceFlag]) (hend : ∀ (g : gh_H) (cb sb : Nat) (ls : List (Option Value)), gh_W l d z 857 ls [.int 1] g cb sb) : gh_W l d z 0 [some (.ref b), none, none, none, none, none, none] [] (fun _ => none) 601024 7293033 := by
  refine gh_new C (1, 0) zL_8 (601024 - 1) (7293033 - 10) (Nat.le_of_ble_eq_true rfl) (Nat.le_of_ble_eq_true rfl) dW_0 (fun ax _ => ?_)
  refine gh_dup C dW_3 rfl ?_
  refine gh_callI C [] (c_Group l d _ gh_us) lL_37 wG_init iG_init rfl rfl rfl rfl (Nat.le_of_ble_eq_true rfl) ⟨Nat.le_of_ble_eq_true rfl, Nat.le_of_ble_eq_true rfl⟩ (Nat.le_of_ble_eq_true rfl) (Nat.le_of_ble_eq_true rfl) dW_4 (fun v1 g1 h1 => ?_)
  obtain ⟨rfl, Z, hZ1, hA, -⟩ := h1
  refine gh_astore_n C [some (.ref b), some (.ref ax), none, none, none, none, none] dW_7 rfl (Nat.le_of_ble_eq_true rfl) ?_
  refine gh_new C (30, 0) zL_38 (601024 - 1 - 70 - 1) (7293033 - 10 - 2000 - 52) (by (try dsimp only [rr]); omega) (by (try dsimp only [rr]); omega) dW_8 (fun ay _ => ?_)
  refine gh_dup C dW_11 rfl ?_
  refine gh_callI C [] (r_Model l d _ gh_us) lL_40 wR_init iR_init rfl rfl rfl rfl (Nat.le_of_ble_eq_true rfl) ⟨Nat.le_of_ble_eq_true rfl, Nat.le_of_ble_eq_true rfl⟩ (Nat.le_of_ble_eq_true rfl) (Nat.le_of_ble_eq_true rfl) dW_12 (fun v2 g2 h2 => ?_)
  obtain ⟨rfl, y, hy, hR⟩ := h2
  refine gh_astore_n C [some (.ref b), some (.ref ax), some (.ref ay), none, none, none, none] dW_15 rfl (Nat.le_of_ble_eq_true rfl) ?_
  refine gh_iconst C (nI 1) dW_16 (by decide) ?_
  refine gh_newaL C (50, 0) 1 ⟨rfl, by decide⟩ (601024 - 1 - 70 - 1 - 44 - 1) (7293033 - 10 - 2000 - 52 - 38008 - 1) (by (try dsimp only [rr]); omega) (by (try dsimp only [rr]); omega) dW_17 (fun ao _ => ?_)
  refine gh_astore_n C [some (.ref b), some (.ref ax), some (.ref ay), some (.ref ao), none, none, none] dW_19 rfl (Nat.le_of_ble_eq_true rfl) ?_
  refine gh_iconst C (nI 0) dW_20 (by decide) ?_
  refine gh_istore C [some (.ref b), some (.ref ax), some (.ref ay), some (.ref ao), some (.int (nI 0)), none, none] dW_21 rfl (Nat.le_of_ble_eq_true rfl) ?_
  refine lw_loop C hZ hX hL htr hend 512 0 _ s0 _ _ none none ?_ lb_0 (by omega) (by omega)
  have f1 : fr (fun k => k == 30) g1 (gh_u g1 (30, 0) (ay, .inr (7, rP (fun _ => 0) 0))) := fun k hk => gh_un (fun q => by subst q; cases hk)
  have f3 : fr (fun k => k == 50) g2 (gh_u g2 (50, 0) (ao, .inl (3, 1, .inr (.inl (fun _ => 0))))) := fun k hk => gh_un (fun q => by subst q; cases hk)
  have e0 : sE s0 = 1 := rfl
  refine ⟨Z, y, r0, fun _ => 0, hZ1, hy, ?_, ?_, j_0, gh_us⟩
  · rw [e0]
    refine ((hA.fq f1 ?_).fq hR.2 (fun k hk => kR_l hk)).fq f3 ?_
    · intro k hk; simp; omega
    · intro k hk; simp; omega
  · exact hR.1.fq f3 rfl rfl
set_option maxHeartbeats 4000000 in
theorem whole_start {p : Program} {e : Env} {s : State} {m : MethodId} {below : List Frame} {meth : Method} {c : Code} (l : Launch) (htr : l.flags = pinnedFlags ++ [noTraceFlag]) {b L : Nat} {xs : Nat → Int32} (hL : L ≤ 2048) (C0 : lw_At p s m meth c b L xs) : W p l e room_1 s m #[Value.ref b] below meth c s.heap [] 0 0 (lw_Z below #[Value.ref b] s) (entryFrame m ([Value.ref b] : List Value).toArray 7) := by
  obtain ⟨hx, hb, hr, hml, hown, hts, hX, hbl, hlocks, hgv⟩ := C0
  obtain ⟨d, hd, hK⟩ := kn_all hts
  have hg : ∀ w ∈ gh_T, w.before #[Value.ref b] s = true := fun w hw => hts w (List.mem_filter.mp hw).1
  have key := lw_begin (l := l) (d := d) (z := (p, e, room_1, s, m, #[Value.ref b], below, meth, c, 7, lw_Z below #[Value.ref b] s)) (nm := meth.name) (b := b) (L := L) (xs := xs) ⟨⟨hx, hb, hml, hown, hg⟩, hr, hlocks, hK, rfl, rfl⟩ ⟨tz_all hd hts hgv, nc_all hts hgv⟩ (by show va_X b L xs s d.2.2 ∧ b < d.2.2.size; rw [hd]; exact ⟨hX, hbl⟩) hL htr (by
    intro g cb sb ls H locs la ce sl hG hlo hL2 i9 j9
    rw [hd] at hlo
    have h1 : ce + cb ≤ 601024 := i9
    have h2 : sl + sb ≤ 7293033 := j9
    exact va_forget hlo (W.widen (k := 601024) (n := 7293033) (by omega) (by omega) (lw_ret hx hb hr hlocks dW_857)))
  have hl := lv_entry (n := 7) [Value.ref b] (Nat.le_of_ble_eq_true rfl)
  rw [lg_entry_eq]
  refine key s.heap [] _ 0 0 ⟨by rw [hd]; exact Nat.le_refl _, fun q _ => by rw [hd], fun k a x h => (by cases h), fun k1 k2 a x1 x2 h => (by cases h)⟩ (fun q h => by cases h) ⟨hl.1, hl.2.1, rfl, fun i v hi => ?_⟩ (Nat.le_of_ble_eq_true rfl) (Nat.le_of_ble_eq_true rfl)
  match i with
  | 0 => cases hi; exact ⟨rfl, rfl⟩
  | 1 => cases hi
  | 2 => cases hi
  | 3 => cases hi
  | 4 => cases hi
  | 5 => cases hi
  | 6 => cases hi
  | _ + 7 => cases hi
