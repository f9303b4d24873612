/-! METHODS WITH HANDLERS: the law's helpers -/
def xIO : String := "java/lang/IndexOutOfBoundsException"
def xIL : String := "java/lang/IllegalStateException"
def gh_Nc (U : State) : Prop := ∃ c1 c2 : ClassId, U.vm.findClass xIL = some c1 ∧ U.vm.findClass xIO = some c2 ∧ U.vm.assignable c1 c2 = false
theorem gh_Nc.warm {s U : State} (hW : s.WarmedH U.vm) (h : gh_Nc s) : gh_Nc U := by
  obtain ⟨c1, c2, h1, h2, h3⟩ := h
  exact ⟨c1, c2, (hW.alike.findClass xIL none).trans h1, (hW.alike.findClass xIO none).trans h2, by rw [hW.alike.assignable]; exact h3⟩
theorem gh_Nc.calling {U : State} {f : JFrame} {mk : MethodId} {a : Array Value} (h : gh_Nc U) : gh_Nc (U.calling f mk a) := h
def gh_PY (d : gh_D) (As : List Value) (g : gh_H) : Array Value → State → Prop := fun a U => a = As.toArray ∧ gh_R d g U.heap ∧ gh_Kn d U ∧ gh_Tz d U ∧ gh_Nc U
theorem gh_PY.blind {d : gh_D} {As : List Value} {g : gh_H} : FrameBlind (gh_PY d As g) := fun _ _ _ _ q => ⟨q.1, q.2.1, q.2.2.1.calling, q.2.2.2.1.calling, q.2.2.2.2.calling⟩
abbrev gh_HH : Type := List (Nat × Nat × Nat × Nat)
def gh_CW (l : Launch) (d : gh_D) (mm : gh_M) (hh : gh_HH) (rm : Room) (As : List Value) (g : gh_H) (Po : Option Value → gh_H → Prop) : Prop :=
  Met l mm.1 (.codeWith mm.1 mm.2.1 mm.2.2.1 mm.2.2.2 hh :: gh_T) rm (gh_PY d As g) (gh_Qc d Po) rm.cells rm.slots (fun q => d.2.2.size ≤ q)
/-- what a caller of throwing methods has at hand -/
def gh_ZC (d : gh_D) (z : gh_Z) : Prop := match z with
  | (_, _, _, s, _, _, _, _, _, _, _) => gh_Tz d s ∧ gh_Nc s
def gh_ZH (z : gh_Z) (hh : gh_HH) : Prop := match z with
  | (_, _, _, _, _, _, _, _, c, _, _) => c.exceptionTable.toList = tableOf hh
theorem gh_ofW {l : Launch} {d : gh_D} {mm : gh_M} {hh : gh_HH} {rm : Room} {As : List Value} {g : gh_H} {Po : Option Value → gh_H → Prop} (ls : List (Option Value)) (hp : plainName mm.1.cls = true) (hls : ls = As.map some ++ List.replicate (mm.2.2.1 - As.length) none) (hn : As.length ≤ mm.2.2.1) (hc : ∀ v ∈ As, v.category = 1)
    (body : ∀ z : gh_Z, gh_X d z mm rm → gh_Q d z Po → gh_ZC d z → gh_ZH z hh → gh_W l d z 0 ls [] g rm.cells rm.slots) : gh_CW l d mm hh rm As g Po := by
  refine va_MetW (cc := mm.2.1) (maxL := mm.2.2.1) (ret := mm.2.2.2) (hh := hh) hp rfl ?_
  intro p e s m args below meth c s₁ B hml hv
  obtain ⟨rfl, hR, hK, hT, hN⟩ := hv
  have hts := atoms_spec (ws := .codeWith mm.1 mm.2.1 mm.2.2.1 mm.2.2.2 hh :: gh_T) B.pre
  have hown : s.vm.findClass mm.1.cls = some m.cls := findClass_of_methodNamed B.named
  have hin : meth.name = mm.1.name := (name_of_methodNamed B.named B.method).1
  obtain ⟨m9, meth9, c9, n0, n1, n2, -, -, n5, -⟩ := Cond.codeWith_spec (hts _ List.mem_cons_self)
  have X0 := Stand.of_body B
  cases B.named.symm.trans n0
  cases n1.symm.trans X0.method
  cases n2.symm.trans X0.code
  have htab : c.exceptionTable.toList = tableOf hh := by rw [← n5, table_eq]
  have key := body (p, e, rm, s, m, As.toArray, below, meth, c, mm.2.2.1, MQ below (gh_Qc d Po) As.toArray s rm.cells rm.slots (fun q => d.2.2.size ≤ q)) ⟨⟨B.exec, B.bytes, hml, hown, fun w hw => hts w (List.mem_cons_of_mem _ hw)⟩, B.returns, B.notSynchronized, hK, rfl, hin⟩ rfl ⟨hT, hN⟩ htab
  have hle : (lg_sl As).length ≤ mm.2.2.1 := by rw [gh_sl As hc, List.length_map]; exact hn
  have hl := lv_entry As hle
  rw [lg_entry_eq]
  refine key s.heap [] _ 0 0 hR (fun q h => by cases h) ⟨hl.1, hl.2.1, by rw [hls]; simp; omega, fun i v hi => ?_⟩ (by simp) (by simp)
  rw [hls] at hi
  have hlt : i < As.length := by
    rcases Nat.lt_or_ge i As.length with h | h
    · exact h
    · rw [List.getElem?_append_right (by simpa using h)] at hi
      rw [List.getElem?_replicate] at hi
      split at hi <;> simp at hi
  rw [List.getElem?_append_left (by simpa using hlt)] at hi
  simp at hi
  have hv : v ∈ As := List.mem_of_getElem? hi
  refine ⟨hc v hv, ?_⟩
  obtain ⟨h5, h6⟩ := List.getElem?_eq_some_iff.mp hi
  rw [gh_sl As hc]
  simp [List.getElem?_append, hlt, h6]
def gh_MH (mm : gh_M) (hh : gh_HH) (n : Nat) : Prop := Cond.codeWith mm.1 mm.2.1 mm.2.2.1 mm.2.2.2 hh ∈ gh_T ∧ Cond.initialized mm.1.cls ∈ gh_T ∧ Cond.static mm.1 ∈ gh_T ∧ mm.1.cls ≠ "java/lang/invoke/MethodHandle" ∧ mm.1.cls ≠ "java/lang/invoke/VarHandle" ∧ (parseMethodDescriptor mm.1.desc).map (fun d => d.parameters.length) = some n
section GHW
variable {l : Launch} {d : gh_D} {z : gh_Z} {mm : gh_M} {rm : Room} {pc : Nat} {ls : List (Option Value)} {rest : List Value} {g : gh_H} {cb sb : Nat}
theorem gh_callSW (C : gh_X d z mm rm) (hZ : gh_ZC d z) {m1 : gh_M} {hh : gh_HH} {rm1 : Room} {index n : Nat} (As : List Value) {st : List Value} {Po : Option Value → gh_H → Prop} (hM : gh_CW l d m1 hh rm1 As g Po) (hl : Cond.methodLink mm.1.cls index m1.1 ∈ gh_T) (hw : gh_MH m1 hh n) (hn : As.length = n) (hst : st = As.reverse ++ rest) (hcat : (rest.map fun v => v.category).sum ≤ 8) (hf : rm1.frames + 1 ≤ rm.frames ∧ 8 + (m1.2.2.1 + 11) + rm1.locals ≤ rm.locals) (hc : rm1.cells ≤ cb) (hs : rm1.slots ≤ sb) (hd : decode mm.2.1 pc = .ok (.invokestatic index, 3))
    (kk : ∀ (v : Option Value) (g1 : gh_H), Po v g1 → gh_W l d z (pc + 3) ls (v.toList ++ rest) g1 (cb - rm1.cells) (sb - rm1.slots)) : gh_W l d z pc ls st g cb sb := by
  refine gh_run (rm1 := rm1) (As := As.toArray) hc hs ?_ kk
  obtain ⟨p, e, R, s, m, args, below, meth, c, nL, Q⟩ := z
  obtain ⟨⟨hx, hb, hml, hown, hts⟩, hr, hlk, hK, hR, hnm⟩ := C
  obtain ⟨hTz, hNc⟩ := hZ
  obtain ⟨w1, w2, w3, w4, w5, w6⟩ := hw
  subst hR
  intro H locs la ce sl hG hL i9 j9 T hT X
  have hback : Back l R p e below s args m1.1 3 8 (PreOf R rm1.cells rm1.slots (gh_PY d As g)) (PostOf (gh_Qc d Po) rm1.cells rm1.slots (fun q => d.2.2.size ≤ q)) :=
    va_backW (hh := hh) (bytes := m1.2.1) (maxL := m1.2.2.1) (ret := m1.2.2.2) hM gh_PY.blind rfl rfl hf.1 hf.2 (fun w hw a' U hW => by
      have hg : w ∈ gh_T := by
        rcases List.mem_cons.mp hw with rfl | h
        · exact w1
        · exact h
      exact word_at hW (gh_T_good w hg) (hts w hg)) List.mem_cons_self (fun a' U hW => word_at hW (gh_T_good _ w2) (hts _ w2))
  obtain ⟨mk, methM, cM, hnamed, hmethM, -, -, -, -, -, -, hsigM⟩ := Cond.codeWith_spec (hts _ w1)
  have hstatic : methM.isStatic = true := Cond.static_spec hnamed hmethM (hts _ w3)
  obtain ⟨kP, hkP, -⟩ := className_of_methodNamed hnamed
  have hinitP : kP.init = .initialized := Cond.initialized_spec (findClass_of_methodNamed hnamed) hkP (hts _ w2)
  have hlen : As.length = methM.sig.parameters.length := by
    rw [hn]
    rw [hsigM] at w6
    exact (Option.some.inj w6).symm
  have hW8 : 2 * (F0 m pc la st).monitorRoom + (rest.map fun v => v.category).sum ≤ 8 := lv_room hcat
  obtain ⟨vm₁, X₁, hstep₁⟩ := X.invokestatic hx hown (hts _ hl) hnamed hmethM hstatic hkP hinitP ⟨w4, w5⟩ (g := F0 m pc la st) rfl (argsL := As) (rest := rest) hlen hst (by rw [hb]; exact hd)
  obtain ⟨v, B, X', ⟨g', mk9, t, L, e1, e2, hq, h1, hL9, h2, h3⟩, hsteps⟩ := hback m meth c ⟨T.setVm vm₁, locs, ce, sl⟩ { (F0 m pc la st) with stack := rest } (.invokestatic index) mk As.toArray X₁ rfl (hL.1.trans hml.symm) (by rw [hb]; exact hd) hW8 (X₁.named hnamed) ⟨by show ce + rm1.cells ≤ R.cells; omega, by show sl + rm1.slots ≤ R.slots; omega, rfl, by show gh_R d g T.heap; rw [hT]; exact hG, hK.warm X₁.warmed, hTz.warm X₁.warmed, hNc.warm X₁.warmed⟩
  obtain ⟨U', l2, c2, s2⟩ := B
  dsimp only [Pt.U, Pt.locs, Pt.cells, Pt.slots] at X' e1 e2 h1 h2 h3 hsteps
  subst h1; subst h2; subst h3
  exact ⟨v, (T.setVm vm₁).calling g' mk9 As.toArray, t, U', L, hT, X', hL9, e1, e2, hq, fun target h => hstep₁ _ fun acts => by rw [doInvoke_state]; exact hsteps.trans h⟩
/-- a call that throws, and is caught in the method itself -/
theorem gh_callVT (C : gh_X d z mm rm) (hZ : gh_ZC d z) {hh : gh_HH} (hH : gh_ZH z hh) {m1 : gh_M} {rm1 : Room} {index n a ci : Nat} {K : gh_K} {r : vw_C} {fs : List Value} {X : String} (As : List Value) {st : List Value} (hM : gh_CT l d m1 rm1 (.ref a :: As) g X) (hown9 : mm.1.cls = "RatchetGroupLaw") (hl : Cond.methodLink mm.1.cls index m1.1 ∈ gh_T) (hw : gh_MW m1 n) (hi : Cond.instanceMethod m1.1 ∈ gh_T ∧ Cond.selects r.1 m1.1 m1.1 ∈ gh_T) (hg : g K = some (a, .inr (ci, fs))) (hcl : gh_cl[ci]? = some r) (hn : As.length = n) (hst : st = As.reverse ++ .ref a :: rest) (hcat : (rest.map fun v => v.category).sum ≤ 8) (hf : rm1.frames + 1 ≤ rm.frames ∧ 8 + (m1.2.2.1 + 11) + rm1.locals ≤ rm.locals) (hc : rm1.cells ≤ cb) (hs : rm1.slots ≤ sb) (hd : decode mm.2.1 pc = .ok (.invokevirtual index, 3))
    (pre : List ExceptionTableEntry) (x : ExceptionTableEntry) (post : List ExceptionTableEntry) (hsplit : tableOf hh = pre ++ x :: post) (hpass : ∀ y ∈ pre, y.catchType = 13 ∧ X = xIL) (hcov : covers x pc = true) (hcat9 : (x.catchType = 13 ∧ X = xIO) ∨ (x.catchType = 15 ∧ X = xIL))
    (kk : ∀ q : Nat, gh_W l d z x.handlerPc ls [.ref q] g (cb - rm1.cells) (sb - rm1.slots)) : gh_W l d z pc ls st g cb sb := by
  obtain ⟨p, e, R, s, m, args, below, meth, c, nL, Q⟩ := z
  obtain ⟨⟨hx, hb, hml, hown, hts⟩, hr, hlk, hK, hR, hnm⟩ := C
  obtain ⟨hTz, hNc⟩ := hZ
  have hH : c.exceptionTable.toList = tableOf hh := hH
  subst hR
  intro H locs la ce sl hG hlo hL i9 j9 T hT X0
  obtain ⟨cellB, hcB, hoB, hclB⟩ := va_recv hK.1 (hG.at hg) hcl (q0 := 0) rfl
  have hback : Free.BackT l R p e below s args m1.1 3 8 (fun A v => A.cells + rm1.cells ≤ R.cells ∧ A.slots + rm1.slots ≤ R.slots ∧ gh_PX d (.ref a :: As) g v A.U) (fun A v q B => ∃ (ce : Cell) (L : List Loc), B.U.heap[q]? = some ce ∧ ce.vm = .none ∧ B.U.vm.findClass X = some ce.cls ∧ gh_R d g B.U.heap ∧ B.locs = A.locs ++ L ∧ (∀ q ∈ L, d.2.2.size ≤ q.base) ∧ B.cells = A.cells + rm1.cells ∧ B.slots = A.slots + rm1.slots) := by
    refine Free.BackT.of_free (bytes := m1.2.1) (maxL := m1.2.2.1) (ret := m1.2.2.2) (E := fun _ _ _ _ L k n => k = rm1.cells ∧ n = rm1.slots ∧ ∀ q ∈ L, d.2.2.size ≤ q.base) hM hf.1 hf.2 ?_ ?_ (fun _ _ _ _ _ _ _ _ _ => trivial) ?_ ?_
    · intro m9 meth9 c9 A v X9 hp
      refine ⟨atoms_intro fun w hw9 => ?_, word_at X9.warmed (gh_T_good _ hw.1) (hts _ hw.1), word_at X9.warmed (gh_T_good _ hw.2.1) (hts _ hw.2.1), hp.1, hp.2.1⟩
      have hg9 : w ∈ gh_T := by
        rcases List.mem_cons.mp hw9 with rfl | h
        · exact hw.1
        · exact h
      exact word_at X9.warmed (gh_T_good w hg9) (hts w hg9)
    · intro m9 meth9 c9 A v g9 mk X9 hp
      exact ⟨hp.2.2.1, hp.2.2.2.1, hp.2.2.2.2.1.calling, hp.2.2.2.2.2.calling⟩
    · rintro v first o t ⟨-, L, hF, hL9⟩
      exact ⟨L, rm1.cells, rm1.slots, hF, rfl, rfl, hL9⟩
    · rintro m9 meth9 c9 A v g9 mk q t L k n9 X9 hp ⟨⟨q9, ce9, eo, h1, h2, h3, h4⟩, -⟩ hF ⟨rfl, rfl, hL9⟩
      cases eo
      exact ⟨ce9, L, h1, h2, h3, h4, rfl, hL9, rfl, rfl⟩
  obtain ⟨mk, methM, hnamed, hmethM, hstM, habM⟩ := Cond.instanceMethod_spec (hts _ hi.1)
  obtain ⟨methM', cM, hmethM', -, -, -, -, -, -, hsigM⟩ := Cond.code_spec hnamed (hts _ hw.1)
  cases hmethM.symm.trans hmethM'
  obtain ⟨c2, r2, m2, q1, q2, q3, q4, kP, hkP, hkPi⟩ := Cond.selects_spec (hts _ hi.2)
  cases hclB.symm.trans q1
  cases (State.methodFound?_of_named hnamed ⟨hw.2.2.1, hw.2.2.2.1⟩).symm.trans q2
  cases hnamed.symm.trans q3
  have hselP : selectMethod e.platform s.vm cellB.cls mk = .method mk := by rw [Launch.admits_selectMethod X0.admits]; exact q4
  have hlen : As.length = methM.sig.parameters.length := by
    rw [hn]
    have w6 := hw.2.2.2.2
    rw [hsigM] at w6
    exact (Option.some.inj w6).symm
  have hW8 : 2 * (F0 m pc la st).monitorRoom + (rest.map fun v => v.category).sum ≤ 8 := lv_room hcat
  obtain ⟨vm₁, X₁, hstep₁⟩ := X0.invokevirtual hx hown (hts _ hl) hnamed hmethM hstM hkP hkPi ⟨hw.2.2.1, hw.2.2.2.1⟩ (a := a) (cell := cellB) (by rw [hT]; exact hcB)
    (fun z h => by rw [h] at hoB; cases hoB) hselP hmethM habM hkP hkPi (g := F0 m pc la st) rfl (argsL := As) (rest := rest) hlen hst (by rw [hb]; exact hd)
  obtain ⟨q, B, X', ⟨ce9, L, p1, p2, p3, p4, p5, p6, p7, p8⟩, hsteps⟩ := hback m meth c ⟨T.setVm vm₁, locs, ce, sl⟩ { (F0 m pc la st) with stack := rest } (.invokevirtual index) mk (Value.ref a :: As).toArray X₁ rfl (hL.1.trans hml.symm) (by rw [hb]; exact hd) hW8 (X₁.named hnamed) ⟨by show ce + rm1.cells ≤ R.cells; omega, by show sl + rm1.slots ≤ R.slots; omega, rfl, by show gh_R d g T.heap; rw [hT]; exact hG, hK.warm X₁.warmed, hTz.warm X₁.warmed⟩
  obtain ⟨U', l2, c2, s2⟩ := B
  dsimp only [Pt.U, Pt.locs, Pt.cells, Pt.slots] at X' p1 p3 p4 p5 p7 p8 hsteps
  subst p5; subst p7; subst p8
  have hfX : s.vm.findClass X = some ce9.cls := (X'.warmed.alike.findClass X none).symm.trans p3
  have hpl : e.platform.magicAccessors = ({} : Platform).magicAccessors := by rw [X'.admits.platform]
  have hownL : s.vm.findClass "RatchetGroupLaw" = some m.cls := by rw [← hown9]; exact hown
  have l13 : Cond.classLink "RatchetGroupLaw" 13 xIO ∈ gh_T := gh_in 391 (by decide +kernel) rfl
  have l15 : Cond.classLink "RatchetGroupLaw" 15 xIL ∈ gh_T := gh_in 392 (by decide +kernel) rfl
  have cIO : Cond.castable xIO xIO ∈ gh_nw := tx_In.2.2.2.1
  have cIL : Cond.castable xIL xIL ∈ gh_nw := tx_Il.2.2.2.1
  have hcast : (Cond.castable X X).before args s = true := by
    rcases hcat9 with ⟨-, rfl⟩ | ⟨-, rfl⟩
    · exact gh_nest_same (U := s) (gh_nw_ok _ cIO) rfl (hK.2.2 _ cIO)
    · exact gh_nest_same (U := s) (gh_nw_ok _ cIL) rfl (hK.2.2 _ cIL)
  obtain ⟨c3, cT, hc3, hcT, hasg⟩ := Cond.castable_spec hcast
  cases hfX.symm.trans hc3
  have hnz : x.catchType ≠ 0 := by rcases hcat9 with ⟨h, -⟩ | ⟨h, -⟩ <;> omega
  have hlink : (Cond.classLink "RatchetGroupLaw" x.catchType X).before args s = true := by
    rcases hcat9 with ⟨h, rfl⟩ | ⟨h, rfl⟩
    · rw [h]; exact hts _ l13
    · rw [h]; exact hts _ l15
  obtain ⟨hend, hk0⟩ := X'.catches_of_link hownL hnz hlink hcT hasg
  have hcome : Steps p.tables e below (T.setTop (F0 m pc la st)) ((U'.setTop { (F0 m pc la st) with stack := rest }).pushFrame (.throwing q)) := hstep₁ _ fun acts => by rw [doInvoke_state]; exact hsteps
  obtain ⟨vm', XV, stV⟩ := X'.thenCaughtThrough q (g := { (F0 m pc la st) with stack := rest }) rfl hcome p1 (by rw [p2]; rfl) hk0 pre x post (hH.trans hsplit) (fun y hy => by
    obtain ⟨y1, y2⟩ := hpass y hy
    obtain ⟨d1, d2, n1, n2, n3⟩ := hNc
    obtain ⟨c', hc', hcl'⟩ := Cond.classLink_spec hownL (show (Cond.classLink "RatchetGroupLaw" y.catchType xIO).before args s = true by rw [y1]; exact hts _ l13) e.platform hpl
    rw [y2] at hfX
    cases hfX.symm.trans n1
    cases n2.symm.trans hc'
    exact Or.inr ⟨by omega, d2, hcl', n3⟩) hcov hend
  obtain ⟨t2, a1, b1⟩ := kk q (U'.setVm vm').heap (locs ++ L) la (ce + rm1.cells) (sl + rm1.slots) p4 (fun q hq => by
    rcases List.mem_append.mp hq with h | h
    · exact hlo q h
    · exact p6 q h) hL (by omega) (by omega) (U'.setVm vm') rfl XV
  exact ⟨t2, stV.trans a1, b1⟩
end GHW
