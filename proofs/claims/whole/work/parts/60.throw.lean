/-! THROWS: a method's walk begun anew at the state where it stands; what the tables say of 'throw new E()' -/
theorem gh_R.ext {d : gh_D} {g : gh_H} {H H1 : Heap} (h : gh_R d g H) (hz : H.size ≤ H1.size) (ho : ∀ q : Nat, q < H.size → H1[q]? = H[q]?) : gh_R d g H1 := by
  obtain ⟨h1, h2, h3, h4⟩ := h
  exact ⟨by omega, fun q hq => (ho q (by omega)).trans (h2 q hq), fun k b y hy => ⟨(h3 k b y hy).1.kept (ho b (h3 k b y hy).1.lt), (h3 k b y hy).2⟩, h4⟩
def gh_sB (s T : State) : State := { s with heap := T.heap, slotsUsed := T.slotsUsed }
theorem gh_rebase {p : Program} {l : Launch} {e : Env} {R : Room} {s : State} {m : MethodId} {args : Array Value} {below : List Frame} {meth : Method} {c : Code} {T : State} {locs : List Loc} {cells slots : Nat}
    (X : Stand p l e R s m args below meth c T locs cells slots) (hc : cells ≤ R.cells) (hs : slots ≤ R.slots) : Stand p l e { R with cells := R.cells - cells, slots := R.slots - slots } (gh_sB s T) m args below meth c T [] 0 0 := by
  have hbook := X.book
  have hsz := X.heapSize
  have hus := X.used
  refine ⟨X.admits, X.cas, X.clock, X.frames, ?_, X.hears, X.method, X.code, X.here, X.tail, State.WarmedH.of_rootvm rfl X.warmed, X.limits, X.bytes, ?_⟩
  · have h := X.room
    simp only [State.hasRoom, Bool.and_eq_true, decide_eq_true_eq] at h ⊢
    obtain ⟨⟨⟨⟨h1, h2⟩, h3⟩, h4⟩, h5⟩ := h
    refine ⟨⟨⟨⟨h1, h2⟩, ?_⟩, ?_⟩, hbook⟩
    · show T.heap.size + (R.cells - cells) ≤ _
      omega
    · show T.slotsUsed + (R.slots - slots) ≤ _
      omega
  · have e1 : T.setVm s.vm = (gh_sB s T).setFrames T.frames := X.same.1
    obtain ⟨t, ht, -⟩ := State.frames_cons (s := gh_sB s T) X.frames
    have h := (State.sameButNew.refl (gh_sB s T) ht).setFrames T.frames (State.cur_lt_of_frames (s := gh_sB s T) X.frames)
    have e2 : T.setVm (gh_sB s T).vm = (gh_sB s T).setFrames T.frames := e1
    rw [e2]
    exact h
/-- what the statics of Throwable hold, in every state whose tables are warmer and whose old cells are the base's -/
def gh_Tz (d : gh_D) (U : State) : Prop := ∀ U2 : State, U.WarmedH U2.vm → d.2.2.size ≤ U2.heap.size → (∀ q : Nat, q < d.2.2.size → U2.heap[q]? = d.2.2[q]?) → ∀ a : Array Value,
  (Cond.laysStatic Bundle.tN "UNASSIGNED_STACK" Bundle.steD).before a U2 = true ∧ (Cond.laysStatic Bundle.tN "SUPPRESSED_SENTINEL" Bundle.listD).before a U2 = true ∧ (Cond.isRef (.static Bundle.tN "UNASSIGNED_STACK" Bundle.steD)).before a U2 = true ∧ (Cond.isRef (.static Bundle.tN "SUPPRESSED_SENTINEL" Bundle.listD)).before a U2 = true
theorem gh_Tz.warm {d : gh_D} {s U : State} (hW : s.WarmedH U.vm) (h : gh_Tz d s) : gh_Tz d U := fun U2 hW2 => h U2 (State.WarmedH.trans hW hW2)
theorem gh_Tz.calling {d : gh_D} {U : State} {f : JFrame} {mk : MethodId} {a : Array Value} (h : gh_Tz d U) : gh_Tz d (U.calling f mk a) := fun U2 hW2 => h U2 hW2
def MQT (below : List Frame) (Qc : Array Value → State → Outcome → State → Prop) (a : Array Value) (s : State) (mc ms : Nat) (free : Addr → Prop) : State → Prop := fun t =>
  ∃ o, t.status = .running ∧ Ended t below o ∧ Qc a s o t ∧ ∃ L, Free.FrameEndT s o t L mc ms ∧ ∀ q ∈ L, free q.base
def gh_PX (d : gh_D) (As : List Value) (g : gh_H) : Array Value → State → Prop := fun a U => a = As.toArray ∧ gh_R d g U.heap ∧ gh_Kn d U ∧ gh_Tz d U
def gh_QT (d : gh_D) (X : String) (g : gh_H) : Array Value → State → Outcome → State → Prop := fun _ _ o t => ∃ (q : Nat) (ce : Cell), o = .threw q ∧ t.heap[q]? = some ce ∧ ce.vm = .none ∧ t.vm.findClass X = some ce.cls ∧ gh_R d g t.heap
/-- a method that throws an X, with nothing changed -/
def gh_CT (l : Launch) (d : gh_D) (mm : gh_M) (rm : Room) (As : List Value) (g : gh_H) (X : String) : Prop :=
  MetFree l mm.1 (headSpec (.code mm.1 mm.2.1 mm.2.2.1 mm.2.2.2 :: gh_T) rm) (gh_PX d As g) (fun _ _ _ _ _ => True) (fun a st o t => gh_QT d X g a st o t ∧ ∃ L, Free.FrameEndT st o t L rm.cells rm.slots ∧ ∀ q ∈ L, d.2.2.size ≤ q.base)
def gh_ZT (d : gh_D) (z : gh_Z) (g : gh_H) (X : String) : Prop := match z with
  | (_, e, R, s, _, args, below, _, c, _, Q) => e.platform.stackTraces = false ∧ gh_Tz d s ∧ c.exceptionTable.isEmpty = true ∧ Q = MQT below (gh_QT d X g) args s R.cells R.slots (fun q => d.2.2.size ≤ q)
theorem gh_ofT {l : Launch} {d : gh_D} {mm : gh_M} {rm : Room} {As : List Value} {g : gh_H} {X : String} (htr : l.flags = pinnedFlags ++ [noTraceFlag]) (ls : List (Option Value)) (hp : plainName mm.1.cls = true) (hls : ls = As.map some ++ List.replicate (mm.2.2.1 - As.length) none) (hn : As.length ≤ mm.2.2.1) (hc : ∀ v ∈ As, v.category = 1)
    (body : ∀ z : gh_Z, gh_X d z mm rm → gh_ZT d z g X → gh_W l d z 0 ls [] g rm.cells rm.slots) : gh_CT l d mm rm As g X := by
  refine MetFree.of_bodyS (code := mm.2.1) (maxLocals := mm.2.2.1) (ret := mm.2.2.2) hp ?_ ?_
  · intro args s m h hn
    obtain ⟨meth, c, h1, h2, h3, h4, h5, h6, -, -⟩ := Cond.code_spec hn (atoms_spec (ws := .code mm.1 mm.2.1 mm.2.2.1 mm.2.2.2 :: gh_T) h _ List.mem_cons_self)
    exact ⟨meth, c, h1, h2, h3, h4, h5, h6⟩
  · intro p e s m args below meth c s₁ B hml hP _
    obtain ⟨rfl, hR, hK, hT⟩ := hP
    have hh0 : s₁.heap = s.heap := by rw [B.state]; rfl
    have hts := atoms_spec (ws := .code mm.1 mm.2.1 mm.2.2.1 mm.2.2.2 :: gh_T) B.pre
    have hown : s.vm.findClass mm.1.cls = some m.cls := findClass_of_methodNamed B.named
    have hin : meth.name = mm.1.name := (name_of_methodNamed B.named B.method).1
    obtain ⟨meth9, c9, n1, n2, -, -, -, -, n7, -⟩ := Cond.code_spec B.named (hts _ List.mem_cons_self)
    have X0 := Stand.of_body B
    cases n1.symm.trans X0.method
    cases n2.symm.trans X0.code
    have key := body (p, e, rm, s, m, As.toArray, below, meth, c, mm.2.2.1, MQT below (gh_QT d X g) As.toArray s rm.cells rm.slots (fun q => d.2.2.size ≤ q)) ⟨⟨B.exec, B.bytes, hml, hown, fun w hw => hts w (List.mem_cons_of_mem _ hw)⟩, B.returns, B.notSynchronized, hK, rfl, hin⟩ ⟨Launch.traces_off htr B.admits, hT, n7, rfl⟩
    have hle : (lg_sl As).length ≤ mm.2.2.1 := by rw [gh_sl As hc, List.length_map]; exact hn
    have hl := lv_entry As hle
    have k2 := key s.heap [] _ 0 0 hR (fun q h => by cases h) ⟨hl.1, hl.2.1, by rw [hls]; simp; omega, fun i v hi => by
      rw [hls] at hi
      have hlt : i < As.length := by
        rcases Nat.lt_or_ge i As.length with h | h
        · exact h
        · rw [List.getElem?_append_right (by simpa using h)] at hi
          rw [List.getElem?_replicate] at hi
          split at hi <;> simp at hi
      rw [List.getElem?_append_left (by simpa using hlt)] at hi
      simp at hi
      have hv : v ∈ As := List.mem_of_getElem? hi
      refine ⟨hc v hv, ?_⟩
      obtain ⟨h5, h6⟩ := List.getElem?_eq_some_iff.mp hi
      rw [gh_sl As hc]
      simp [List.getElem?_append, hlt, h6]⟩ (by simp) (by simp)
    rw [lg_entry_eq]
    obtain ⟨t, a1, o, b1, b2, b3⟩ := k2 s₁ hh0 X0
    exact ⟨t, o, a1, b1, b2, ⟨b3.1, b3.2⟩⟩
theorem decl_of {a : Array Value} {s : State} {x : MethodName} {bytes : ByteArray} (hi : (Cond.instanceMethod x).before a s = true) (hc : (Cond.code x bytes 1 none).before a s = true) : (Cond.declares x).before a s = true := by
  obtain ⟨mk, methM, hnamed, hmethM, hst, hab⟩ := Cond.instanceMethod_spec hi
  obtain ⟨meth, c, h1, h2, h3, h4, h5, h6, h7, h8⟩ := Cond.code_spec hnamed hc
  cases h1.symm.trans hmethM
  simp [Cond.before, Cond.holds, Cond.value, hnamed, hmethM, hst, h8]
theorem wx_In {a : Array Value} {s : State} (hw : ∀ w ∈ gh_T, w.before a s = true) (hn : (Cond.castable "java/lang/IndexOutOfBoundsException" "java/lang/IndexOutOfBoundsException").before a s = true)
    (hz : (Cond.laysStatic Bundle.tN "UNASSIGNED_STACK" Bundle.steD).before a s = true ∧ (Cond.laysStatic Bundle.tN "SUPPRESSED_SENTINEL" Bundle.listD).before a s = true ∧ (Cond.isRef (.static Bundle.tN "UNASSIGNED_STACK" Bundle.steD)).before a s = true ∧ (Cond.isRef (.static Bundle.tN "SUPPRESSED_SENTINEL" Bundle.listD)).before a s = true) :
    ∀ w ∈ Bundle.ownAtoms0 "RatchetGroup" 89 "java/lang/IndexOutOfBoundsException" ["java/lang/RuntimeException", "java/lang/Exception"], w.before a s = true := by
  simp only [Bundle.ownAtoms0, Bundle.throwableAtoms, Bundle.chain0Atoms, Bundle.passAtoms, List.cons_append, List.nil_append, List.forall_mem_cons]
  refine ⟨?_, ?_, ?_, ?_, ?_, ?_, ?_, ?_, ?_, ?_, ?_, ?_, ?_, ?_, ?_, ?_, ?_, ?_, ?_, ?_, ?_, ?_, ?_, ?_, ?_, ?_, ?_, ?_, ?_, ?_, ?_, ?_, ?_, ?_, ?_, ?_, ?_, ?_, ?_, ?_, ?_, ?_, ?_, ?_, ?_, ?_, ?_, ?_, ?_, ?_, ?_, ?_, ?_, ?_⟩
  · exact (hw _ (gh_in 70 (by decide +kernel) rfl))
  · exact (hw _ (gh_in 419 (by decide +kernel) rfl))
  · exact (hw _ (gh_in 428 (by decide +kernel) rfl))
  · exact (hw _ (gh_in 431 (by decide +kernel) rfl))
  · exact (hw _ (gh_in 434 (by decide +kernel) rfl))
  · exact (hw _ (gh_in 436 (by decide +kernel) rfl))
  · exact (hw _ (gh_in 420 (by decide +kernel) rfl))
  · exact (hw _ (gh_in 421 (by decide +kernel) rfl))
  · exact (hw _ (gh_in 84 (by decide +kernel) rfl))
  · exact (hw _ (gh_in 85 (by decide +kernel) rfl))
  · exact (hw _ (gh_in 422 (by decide +kernel) rfl))
  · exact (hw _ (gh_in 427 (by decide +kernel) rfl))
  · exact (hw _ (gh_in 432 (by decide +kernel) rfl))
  · exact (hw _ (gh_in 448 (by decide +kernel) rfl))
  · exact (hw _ (gh_in 409 (by decide +kernel) rfl))
  · exact (hw _ (gh_in 449 (by decide +kernel) rfl))
  · exact (hw _ (gh_in 411 (by decide +kernel) rfl))
  · exact (hw _ (gh_in 450 (by decide +kernel) rfl))
  · exact (hw _ (gh_in 413 (by decide +kernel) rfl))
  · exact (hw _ (gh_in 423 (by decide +kernel) rfl))
  · exact hz.1
  · exact (hw _ (gh_in 425 (by decide +kernel) rfl))
  · exact hz.2.1
  · exact (hw _ (gh_in 415 (by decide +kernel) rfl))
  · exact (hw _ (gh_in 438 (by decide +kernel) rfl))
  · exact (hw _ (gh_in 439 (by decide +kernel) rfl))
  · exact (hw _ (gh_in 440 (by decide +kernel) rfl))
  · exact (hw _ (gh_in 441 (by decide +kernel) rfl))
  · exact decl_of (bytes := prog_16_method_1_code) (hw _ (gh_in 441 (by decide +kernel) rfl)) (hw _ (gh_in 442 (by decide +kernel) rfl))
  · exact (hw _ (gh_in 441 (by decide +kernel) rfl))
  · exact (hw _ (gh_in 442 (by decide +kernel) rfl))
  · exact (hw _ (gh_in 443 (by decide +kernel) rfl))
  · exact (hw _ (gh_in 444 (by decide +kernel) rfl))
  · exact decl_of (bytes := prog_11_method_1_code) (hw _ (gh_in 444 (by decide +kernel) rfl)) (hw _ (gh_in 445 (by decide +kernel) rfl))
  · exact (hw _ (gh_in 444 (by decide +kernel) rfl))
  · exact (hw _ (gh_in 445 (by decide +kernel) rfl))
  · exact (hw _ (gh_in 446 (by decide +kernel) rfl))
  · exact (hw _ (gh_in 420 (by decide +kernel) rfl))
  · exact decl_of (bytes := prog_18_method_1_code) (hw _ (gh_in 420 (by decide +kernel) rfl)) (hw _ (gh_in 421 (by decide +kernel) rfl))
  · exact (hw _ (gh_in 437 (by decide +kernel) rfl))
  · exact (hw _ (gh_in 398 (by decide +kernel) rfl))
  · exact hn
  · exact (hw _ (gh_in 406 (by decide +kernel) rfl))
  · exact (hw _ (gh_in 407 (by decide +kernel) rfl))
  · exact (hw _ (gh_in 408 (by decide +kernel) rfl))
  · exact (hw _ (gh_in 410 (by decide +kernel) rfl))
  · exact (hw _ (gh_in 412 (by decide +kernel) rfl))
  · exact (hw _ (gh_in 414 (by decide +kernel) rfl))
  · exact hz.2.2.1
  · exact hz.2.2.2
  · exact (hw _ (gh_in 418 (by decide +kernel) rfl))
  · exact (hw _ (gh_in 417 (by decide +kernel) rfl))
  · exact (hw _ (gh_in 416 (by decide +kernel) rfl))
  · exact fun w h => by cases h
theorem wx_Il {a : Array Value} {s : State} (hw : ∀ w ∈ gh_T, w.before a s = true) (hn : (Cond.castable "java/lang/IllegalStateException" "java/lang/IllegalStateException").before a s = true)
    (hz : (Cond.laysStatic Bundle.tN "UNASSIGNED_STACK" Bundle.steD).before a s = true ∧ (Cond.laysStatic Bundle.tN "SUPPRESSED_SENTINEL" Bundle.listD).before a s = true ∧ (Cond.isRef (.static Bundle.tN "UNASSIGNED_STACK" Bundle.steD)).before a s = true ∧ (Cond.isRef (.static Bundle.tN "SUPPRESSED_SENTINEL" Bundle.listD)).before a s = true) :
    ∀ w ∈ Bundle.ownAtoms0 "RatchetGroup" 95 "java/lang/IllegalStateException" ["java/lang/RuntimeException", "java/lang/Exception"], w.before a s = true := by
  simp only [Bundle.ownAtoms0, Bundle.throwableAtoms, Bundle.chain0Atoms, Bundle.passAtoms, List.cons_append, List.nil_append, List.forall_mem_cons]
  refine ⟨?_, ?_, ?_, ?_, ?_, ?_, ?_, ?_, ?_, ?_, ?_, ?_, ?_, ?_, ?_, ?_, ?_, ?_, ?_, ?_, ?_, ?_, ?_, ?_, ?_, ?_, ?_, ?_, ?_, ?_, ?_, ?_, ?_, ?_, ?_, ?_, ?_, ?_, ?_, ?_, ?_, ?_, ?_, ?_, ?_, ?_, ?_, ?_, ?_, ?_, ?_, ?_, ?_, ?_⟩
  · exact (hw _ (gh_in 70 (by decide +kernel) rfl))
  · exact (hw _ (gh_in 419 (by decide +kernel) rfl))
  · exact (hw _ (gh_in 428 (by decide +kernel) rfl))
  · exact (hw _ (gh_in 431 (by decide +kernel) rfl))
  · exact (hw _ (gh_in 434 (by decide +kernel) rfl))
  · exact (hw _ (gh_in 436 (by decide +kernel) rfl))
  · exact (hw _ (gh_in 420 (by decide +kernel) rfl))
  · exact (hw _ (gh_in 421 (by decide +kernel) rfl))
  · exact (hw _ (gh_in 84 (by decide +kernel) rfl))
  · exact (hw _ (gh_in 85 (by decide +kernel) rfl))
  · exact (hw _ (gh_in 422 (by decide +kernel) rfl))
  · exact (hw _ (gh_in 427 (by decide +kernel) rfl))
  · exact (hw _ (gh_in 432 (by decide +kernel) rfl))
  · exact (hw _ (gh_in 448 (by decide +kernel) rfl))
  · exact (hw _ (gh_in 409 (by decide +kernel) rfl))
  · exact (hw _ (gh_in 449 (by decide +kernel) rfl))
  · exact (hw _ (gh_in 411 (by decide +kernel) rfl))
  · exact (hw _ (gh_in 450 (by decide +kernel) rfl))
  · exact (hw _ (gh_in 413 (by decide +kernel) rfl))
  · exact (hw _ (gh_in 423 (by decide +kernel) rfl))
  · exact hz.1
  · exact (hw _ (gh_in 425 (by decide +kernel) rfl))
  · exact hz.2.1
  · exact (hw _ (gh_in 415 (by decide +kernel) rfl))
  · exact (hw _ (gh_in 469 (by decide +kernel) rfl))
  · exact (hw _ (gh_in 470 (by decide +kernel) rfl))
  · exact (hw _ (gh_in 471 (by decide +kernel) rfl))
  · exact (hw _ (gh_in 441 (by decide +kernel) rfl))
  · exact decl_of (bytes := prog_16_method_1_code) (hw _ (gh_in 441 (by decide +kernel) rfl)) (hw _ (gh_in 442 (by decide +kernel) rfl))
  · exact (hw _ (gh_in 441 (by decide +kernel) rfl))
  · exact (hw _ (gh_in 442 (by decide +kernel) rfl))
  · exact (hw _ (gh_in 443 (by decide +kernel) rfl))
  · exact (hw _ (gh_in 444 (by decide +kernel) rfl))
  · exact decl_of (bytes := prog_11_method_1_code) (hw _ (gh_in 444 (by decide +kernel) rfl)) (hw _ (gh_in 445 (by decide +kernel) rfl))
  · exact (hw _ (gh_in 444 (by decide +kernel) rfl))
  · exact (hw _ (gh_in 445 (by decide +kernel) rfl))
  · exact (hw _ (gh_in 446 (by decide +kernel) rfl))
  · exact (hw _ (gh_in 420 (by decide +kernel) rfl))
  · exact decl_of (bytes := prog_18_method_1_code) (hw _ (gh_in 420 (by decide +kernel) rfl)) (hw _ (gh_in 421 (by decide +kernel) rfl))
  · exact (hw _ (gh_in 468 (by decide +kernel) rfl))
  · exact (hw _ (gh_in 460 (by decide +kernel) rfl))
  · exact hn
  · exact (hw _ (gh_in 462 (by decide +kernel) rfl))
  · exact (hw _ (gh_in 430 (by decide +kernel) rfl))
  · exact (hw _ (gh_in 463 (by decide +kernel) rfl))
  · exact (hw _ (gh_in 464 (by decide +kernel) rfl))
  · exact (hw _ (gh_in 465 (by decide +kernel) rfl))
  · exact (hw _ (gh_in 466 (by decide +kernel) rfl))
  · exact hz.2.2.1
  · exact hz.2.2.2
  · exact (hw _ (gh_in 418 (by decide +kernel) rfl))
  · exact (hw _ (gh_in 417 (by decide +kernel) rfl))
  · exact (hw _ (gh_in 467 (by decide +kernel) rfl))
  · exact fun w h => by cases h
