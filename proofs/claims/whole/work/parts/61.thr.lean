theorem cell_eq {c c1 : Cell} (h : c1 = { c with slots := c1.slots }) (hs : ∀ i : Nat, c1.slots[i]? = c.slots[i]?) : c1 = c := by
  have e : c1.slots = c.slots := Array.ext_getElem? hs
  rw [h, e]
def hzT (a : Array Value) (s : State) : Prop := (Cond.laysStatic Bundle.tN "UNASSIGNED_STACK" Bundle.steD).before a s = true ∧ (Cond.laysStatic Bundle.tN "SUPPRESSED_SENTINEL" Bundle.listD).before a s = true ∧ (Cond.isRef (.static Bundle.tN "UNASSIGNED_STACK" Bundle.steD)).before a s = true ∧ (Cond.isRef (.static Bundle.tN "SUPPRESSED_SENTINEL" Bundle.listD)).before a s = true
def gh_TX (X : String) (ix ic : Nat) : Prop := Cond.classLink "RatchetGroup" ix X ∈ gh_T ∧ Cond.instantiable X 6 ∈ gh_T ∧ Cond.initialized X ∈ gh_T ∧ Cond.castable X X ∈ gh_nw ∧ Bundle.fit X = true ∧ ∀ (a : Array Value) (s : State), (∀ w ∈ gh_T, w.before a s = true) → (Cond.castable X X).before a s = true → hzT a s → ∀ w ∈ Bundle.ownAtoms0 "RatchetGroup" ic X ["java/lang/RuntimeException", "java/lang/Exception"], w.before a s = true
set_option maxHeartbeats 1000000 in
theorem gh_thr {l : Launch} {d : gh_D} {z : gh_Z} {mm : gh_M} {rm : Room} {pc : Nat} {ls : List (Option Value)} {rest : List Value} {g : gh_H} {cb sb : Nat} {X : String} {ix ic : Nat} (C : gh_X d z mm rm) (hZ : gh_ZT d z g X) (hX : gh_TX X ix ic) (hown : mm.1.cls = "RatchetGroup")
    (h1 : 1 ≤ cb) (h2 : 6 ≤ sb) (hfr : 6 ≤ rm.frames ∧ 100 ≤ rm.locals) (hcat : (rest.map fun v => v.category).sum ≤ 8)
    (hd0 : decode mm.2.1 pc = .ok (.new ix, 3)) (hd3 : decode mm.2.1 (pc + 3) = .ok (.dup, 1)) (hd4 : decode mm.2.1 (pc + 4) = .ok (.invokespecial ic, 3)) (hd7 : decode mm.2.1 (pc + 7) = .ok (.athrow, 1)) : gh_W l d z pc ls rest g cb sb := by
  obtain ⟨p, e, R, s, m, args, below, meth, c, nL, Q⟩ := z
  obtain ⟨⟨hx, hb, hml, hown1, hts⟩, hr, hlk, hK, hR, hnm⟩ := C
  obtain ⟨htr, hTz, hex, hQ⟩ := hZ
  obtain ⟨w1, w2, w3, w4, hfit, hat⟩ := hX
  subst hR
  subst hQ
  intro H locs la ce sl hG hlo1 hL i9 j9 T hT X0
  have hc9 : ce ≤ R.cells := by omega
  have hs9 : sl ≤ R.slots := by omega
  have X1 := gh_rebase X0 hc9 hs9
  have hws : ∀ w ∈ gh_T, w.before args (gh_sB s T) = true := fun w hw => word_at (U := gh_sB s T) (State.WarmedH.refl s) (gh_T_good w hw) (hts w hw)
  have hz : hzT args (gh_sB s T) := hTz (gh_sB s T) (State.WarmedH.refl s) (by show d.2.2.size ≤ T.heap.size; rw [hT]; exact hG.1) (fun q hq => by show T.heap[q]? = _; rw [hT]; exact hG.2.1 q hq) args
  have hcast : (Cond.castable X X).before args (gh_sB s T) = true := gh_nest_same (U := gh_sB s T) (gh_nw_ok _ w4) rfl (hK.2.2 _ w4)
  have hownR : (gh_sB s T).vm.findClass "RatchetGroup" = some m.cls := by rw [← hown]; exact hown1
  have key : W p l e { R with cells := R.cells - ce, slots := R.slots - sl } (gh_sB s T) m args below meth c H [] 0 0 (MQT below (gh_QT d X g) args s R.cells R.slots (fun q => d.2.2.size ≤ q)) (F0 m pc la rest) := by
    refine W.newc hx hb hownR (hws _ w1) (hws _ w2) (hws _ w3) rfl hd0 (by show 0 + 1 ≤ R.cells - ce; omega) (by show 0 + 6 ≤ R.slots - sl; omega) fun cC kC f1 f2 f3 f4 => ?_
    refine lv_dup hx hb hd3 rfl ?_
    intro T2 hT2 X2
    have hcell : T2.heap[H.size]? = some (freshCell cC kC) := by rw [hT2]; exact Array.getElem?_push_size
    obtain ⟨U, st, hrun, hend, hWU, hsame, ce2, hce2, hown2⟩ := X2.ctorThrow0 hx htr (own := "RatchetGroup") (cls := X) (names := ["java/lang/RuntimeException", "java/lang/Exception"]) (ic := ic) hownR hfit (by decide) (hat _ _ hws hcast hz) (fun x hx => by cases hx) f1 f2 hcell (by show T.heap.size ≤ H.size; rw [hT]; exact Nat.le_refl _)
      (g := F0 m (pc + 4) la (.ref H.size :: .ref H.size :: rest)) rfl (hL.1.trans hml.symm) rfl rfl rfl (by rw [hb]; exact hd4) (by rw [hb]; exact hd7) (fun x hx => by
        have : c.exceptionTable.toList = [] := by simpa [Array.isEmpty] using hex
        rw [this] at hx; cases hx) (by show 2 + 3 < R.frames; omega) (by show 2 * 0 + ((Value.ref H.size :: rest).map fun v => v.category).sum + (13 * (2 + 1) + 41) ≤ R.locals; have e9 : ((Value.ref H.size :: rest).map fun v => v.category).sum = 1 + (rest.map fun v => v.category).sum := rfl; rw [e9]; omega) hlk
    have hz2 : T.heap.size ≤ U.heap.size := hsame.2.1
    refine ⟨U, st, .threw H.size, hrun, hend, ⟨H.size, ce2, rfl, hce2, hown2.vm, ?_, ?_⟩, locs, ⟨⟨_, rfl⟩, State.WarmedH.of_rootvm rfl hWU, ?_⟩, hlo1⟩
    · exact (hWU.alike.findClass X none).trans hown2.cls
    · refine hG.ext (by rw [← hT]; exact hz2) (fun q hq => ?_)
      obtain ⟨c0, hc0⟩ : ∃ c0, H[q]? = some c0 := ⟨_, Array.getElem?_eq_getElem hq⟩
      obtain ⟨c1, g1, g2, g3, g4⟩ := hsame.2.2.2.2.2 q c0 (by show T.heap[q]? = _; rw [hT]; exact hc0)
      rw [hc0, ← cell_eq g2 (fun i => g4 i (by simp))]
      exact g1
    · have e1 : T.setVm s.vm = (gh_sB s T).setFrames T.frames := X0.same.1
      have k2 : (T.setVm s.vm).sameButNew ({ U with vm := s.vm } : State) [] (0 + 1) (0 + 6) := by
        refine ⟨?_, hsame.2⟩
        rw [e1, State.setFrames_setFrames]
        exact hsame.1
      have k3 := X0.same.trans k2
      rw [List.append_nil] at k3
      exact k3.mono (by omega) (by omega)
  exact key T hT X1
theorem tx_In : gh_TX "java/lang/IndexOutOfBoundsException" 87 89 := ⟨gh_in 397 (by decide +kernel) rfl, gh_in 398 (by decide +kernel) rfl, gh_in 73 (by decide +kernel) rfl, by simp [gh_nw], by decide +kernel, fun _ _ h1 h2 h3 => wx_In h1 h2 h3⟩
theorem tx_Il : gh_TX "java/lang/IllegalStateException" 93 95 := ⟨gh_in 459 (by decide +kernel) rfl, gh_in 460 (by decide +kernel) rfl, gh_in 74 (by decide +kernel) rfl, by simp [gh_nw], by decide +kernel, fun _ _ h1 h2 h3 => wx_Il h1 h2 h3⟩
