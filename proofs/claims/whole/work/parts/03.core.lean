/-! GHOST HEAPS. A key (a kind, a number) has a cell: its address and what it holds. gh_R: the machine's heap holds the ghost heap. gh_W: the machine, at pc with these locals and this stack, over a heap that holds g, with cb cells and sb slots still to be made, comes to its end. gh_C: a method's contract. -/
abbrev gh_K : Type := Nat × Nat
abbrev gh_E : Type := (Nat × vp_A) ⊕ (Nat × List Value)
abbrev gh_H : Type := gh_K → Option (Nat × gh_E)
abbrev gh_D : Type := va_G × (Nat → ClassId) × Heap
abbrev gh_M : Type := MethodName × ByteArray × Nat × Option FieldType
abbrev gh_Z : Type := Program × Env × Room × State × MethodId × Array Value × List Frame × Method × Code × Nat × (State → Prop)
def gh_e (d : gh_D) (x : gh_E) : va_E := match x with
  | .inl q => .inl (d.2.1 q.1, q.2)
  | .inr o => .inr o
def gh_u (g : gh_H) (k : gh_K) (v : Nat × gh_E) : gh_H := fun q => if q = k then some v else g q
theorem gh_us {g : gh_H} {k : gh_K} {v : Nat × gh_E} : gh_u g k v k = some v := if_pos rfl
theorem gh_un {g : gh_H} {k q : gh_K} {v : Nat × gh_E} (h : q ≠ k) : gh_u g k v q = g q := if_neg h
theorem gh_uu {g : gh_H} {k : gh_K} {v w : Nat × gh_E} : gh_u (gh_u g k v) k w = gh_u g k w := by
  funext q
  by_cases h : q = k
  · subst h; simp [gh_u]
  · simp [gh_u, h]
def gh_T : List Cond := lw_tbl.filter goodWord
theorem gh_in {w : Cond} (i : Nat) (h : lw_tbl[i]? = some w) (hg : goodWord w = true) : w ∈ gh_T := List.mem_filter.mpr ⟨List.mem_of_getElem? h, hg⟩
theorem gh_T_good : ∀ w ∈ gh_T, (w.onTables && w.keeps) = true ∨ ∃ ty, w = .arrayClass ty := fun w h => good_of_word (List.mem_filter.mp h).2
def gh_Kn (d : gh_D) (U : State) : Prop := va_K d.1 gh_cl [] U ∧ (∀ (k : Nat) (ty : FieldType), gh_ty[k]? = some ty → ArrOfT U (d.2.1 k) ty ∧ va_RA U (d.2.1 k) ty) ∧ ∀ w ∈ gh_nw, va_Nw w U
theorem gh_nest_warm {w : Cond} (h : gh_nest w = true) {s U : State} (hW : s.WarmedH U.vm) (hZ : va_Nw w s) : va_Nw w U := by
  unfold gh_nest at h
  split at h
  · exact va_Nw.warmF hW hZ
  · exact va_Nw.warmM hW hZ
  · exact va_AO.moved hW.alike hZ
  · exact va_Nw.warmC hW hZ
  · cases h
theorem gh_Kn.warm {d : gh_D} {s U : State} (hW : s.WarmedH U.vm) (h : gh_Kn d s) : gh_Kn d U :=
  ⟨va_K.moved hW.alike h.1, fun k ty hk => ⟨arrOfT_moved hW.alike (h.2.1 k ty hk).1, (h.2.1 k ty hk).2.moved hW.alike⟩, fun w hw => gh_nest_warm (gh_nw_ok w hw) hW (h.2.2 w hw)⟩
theorem gh_nest_same {w : Cond} (h : gh_nest w = true) {s U : State} (hv : s.vm = U.vm) (hZ : va_Nw w s) : va_Nw w U := by
  unfold gh_nest at h
  split at h
  · exact va_Nw.same rfl hv hZ
  · exact va_Nw.same rfl hv hZ
  · exact va_AO.moved (hv ▸ Vm.Alike.refl s.vm) hZ
  · exact va_Nw.same rfl hv hZ
  · cases h
theorem gh_Kn.calling {d : gh_D} {U : State} {f : JFrame} {mk : MethodId} {a : Array Value} (h : gh_Kn d U) : gh_Kn d (U.calling f mk a) :=
  ⟨va_K.moved (u := U) (U := U.calling f mk a) (Vm.Alike.refl U.vm) h.1, fun k ty hk => ⟨arrOfT_moved (u := U) (E := U.calling f mk a) (Vm.Alike.refl U.vm) (h.2.1 k ty hk).1, va_RA.moved (u := U) (U := U.calling f mk a) (Vm.Alike.refl U.vm) (h.2.1 k ty hk).2⟩, fun w hw => gh_nest_same (s := U) (U := U.calling f mk a) (gh_nw_ok w hw) rfl (h.2.2 w hw)⟩
def gh_R (d : gh_D) (g : gh_H) (H : Heap) : Prop := d.2.2.size ≤ H.size ∧ (∀ q : Nat, q < d.2.2.size → H[q]? = d.2.2[q]?) ∧ (∀ (k : gh_K) (a : Nat) (x : gh_E), g k = some (a, x) → va_at d.1 gh_cl (a, gh_e d x) H ∧ d.2.2.size ≤ a) ∧ ∀ (k1 k2 : gh_K) (a : Nat) (x1 x2 : gh_E), g k1 = some (a, x1) → g k2 = some (a, x2) → k1 = k2
def gh_L (la : Array Slot) (nL : Nat) (ls : List (Option Value)) : Prop := la.size = nL ∧ lv_wf la ∧ ls.length = nL ∧ ∀ (i : Nat) (v : Value), ls[i]? = some (some v) → v.category = 1 ∧ la[i]? = some (.val v)
theorem gh_L.at {la : Array Slot} {nL : Nat} {ls : List (Option Value)} (h : gh_L la nL ls) {i : Nat} {v : Value} (hi : ls[i]? = some (some v)) : la[i]? = some (.val v) := (h.2.2.2 i v hi).2
theorem gh_L.store {la : Array Slot} {nL : Nat} {ls : List (Option Value)} (h : gh_L la nL ls) {i : Nat} {v : Value} (hi : i < ls.length) (hc : v.category = 1) : ∃ la', storeLocals la i v = some la' ∧ gh_L la' nL (ls.set i (some v)) := by
  obtain ⟨h1, h2, h3, h4⟩ := h
  have hh : lv_has la nL ((List.range nL).filterMap (fun j => match ls[j]? with | some (some w) => some (j, w) | _ => none)) := by
    refine ⟨h1, h2, fun q hq => ?_⟩
    obtain ⟨j, -, hj⟩ := List.mem_filterMap.mp hq
    split at hj
    · rename_i w hw
      cases hj
      exact (h4 _ _ hw).2
    · cases hj
  obtain ⟨la', e', k1, k2, k3⟩ := lv_store1 (i := i) (v := v) hh (by omega) hc
  refine ⟨la', e', k1, k2, by simp [h3], fun j w hj => ?_⟩
  by_cases hji : j = i
  · subst hji
    rw [List.getElem?_set_self hi] at hj
    cases hj
    exact ⟨hc, k3 _ List.mem_cons_self⟩
  · rw [List.getElem?_set_ne (fun q => hji q.symm)] at hj
    refine ⟨(h4 j w hj).1, k3 (j, w) (List.mem_cons_of_mem _ (List.mem_filter.mpr ⟨List.mem_filterMap.mpr ⟨j, ?_, by rw [hj]⟩, ?_⟩))⟩
    · rw [List.mem_range, ← h3]
      exact (List.getElem?_eq_some_iff.mp hj).1
    · have := (h4 j w hj).1
      simp [hji, this]
theorem gh_L.forget {la : Array Slot} {nL : Nat} {ls ls' : List (Option Value)} (h : gh_L la nL ls) (hl : ls'.length = ls.length) (hf : ∀ (i : Nat) (v : Value), ls'[i]? = some (some v) → ls[i]? = some (some v)) : gh_L la nL ls' := ⟨h.1, h.2.1, hl.trans h.2.2.1, fun i v hi => h.2.2.2 i v (hf i v hi)⟩
def gh_W (l : Launch) (d : gh_D) (z : gh_Z) (pc : Nat) (ls : List (Option Value)) (st : List Value) (g : gh_H) (cb sb : Nat) : Prop := match z with
  | (p, e, R, s, m, args, below, meth, c, nL, Q) => ∀ (H : Heap) (locs : List Loc) (la : Array Slot) (cells slots : Nat), gh_R d g H → (∀ q ∈ locs, d.2.2.size ≤ q.base) → gh_L la nL ls → cells + cb ≤ R.cells → slots + sb ≤ R.slots → W p l e R s m args below meth c H locs cells slots Q (F0 m pc la st)
def gh_X (d : gh_D) (z : gh_Z) (mm : gh_M) (rm : Room) : Prop := match z with
  | (p, _, R, s, m, args, _, meth, c, nL, _) => CallFix p m c mm.2.1 nL s args gh_T mm.1.cls ∧ meth.sig.returnType = mm.2.2.2 ∧ meth.locks = false ∧ gh_Kn d s ∧ R = rm ∧ meth.name = mm.1.name
def gh_P (d : gh_D) (As : List Value) (g : gh_H) : Array Value → State → Prop := fun a U => a = As.toArray ∧ gh_R d g U.heap ∧ gh_Kn d U
def gh_Qc (d : gh_D) (Po : Option Value → gh_H → Prop) : Array Value → State → Outcome → State → Prop := fun _ _ o t => ∃ (v : Option Value) (g : gh_H), o = .returned v ∧ Po v g ∧ gh_R d g t.heap
def gh_Q (d : gh_D) (z : gh_Z) (Po : Option Value → gh_H → Prop) : Prop := match z with
  | (_, _, R, s, _, args, below, _, _, _, Q) => Q = MQ below (gh_Qc d Po) args s R.cells R.slots (fun q => d.2.2.size ≤ q)
def gh_C (l : Launch) (d : gh_D) (mm : gh_M) (rm : Room) (As : List Value) (g : gh_H) (Po : Option Value → gh_H → Prop) : Prop :=
  Met l mm.1 (.code mm.1 mm.2.1 mm.2.2.1 mm.2.2.2 :: gh_T) rm (gh_P d As g) (gh_Qc d Po) rm.cells rm.slots (fun q => d.2.2.size ≤ q)
theorem gh_P.blind {d : gh_D} {As : List Value} {g : gh_H} : FrameBlind (gh_P d As g) := fun _ _ _ _ q => ⟨q.1, q.2.1, q.2.2.calling⟩
theorem gh_sl : ∀ (As : List Value), (∀ v ∈ As, v.category = 1) → lg_sl As = As.map Slot.val := by
  intro As
  induction As with
  | nil => intro _; rfl
  | cons v As ih =>
    intro h
    have h1 : v.category = 1 := h v List.mem_cons_self
    have h2 := ih (fun w hw => h w (List.mem_cons_of_mem _ hw))
    have h3 : lg_sl (v :: As) = (if v.category = 2 then [Slot.val v, .second] else [.val v]) ++ lg_sl As := by simp [lg_sl]
    rw [h3, h1, h2]
    simp
/-- a contract out of the walk of its body -/
theorem gh_of {l : Launch} {d : gh_D} {mm : gh_M} {rm : Room} {As : List Value} {g : gh_H} {Po : Option Value → gh_H → Prop} (ls : List (Option Value)) (hp : plainName mm.1.cls = true) (hls : ls = As.map some ++ List.replicate (mm.2.2.1 - As.length) none) (hn : As.length ≤ mm.2.2.1) (hc : ∀ v ∈ As, v.category = 1)
    (body : ∀ z : gh_Z, gh_X d z mm rm → gh_Q d z Po → gh_W l d z 0 ls [] g rm.cells rm.slots) : gh_C l d mm rm As g Po := by
  refine Met.ofW (cc := mm.2.1) (maxL := mm.2.2.1) (ret := mm.2.2.2) hp rfl ?_
  intro p e s m args below meth c s₁ B hml hv
  obtain ⟨rfl, hR, hK⟩ := hv
  have hts := atoms_spec (ws := .code mm.1 mm.2.1 mm.2.2.1 mm.2.2.2 :: gh_T) B.pre
  have hown : s.vm.findClass mm.1.cls = some m.cls := findClass_of_methodNamed B.named
  have hin : meth.name = mm.1.name := (name_of_methodNamed B.named B.method).1
  have key := body (p, e, rm, s, m, As.toArray, below, meth, c, mm.2.2.1, MQ below (gh_Qc d Po) As.toArray s rm.cells rm.slots (fun q => d.2.2.size ≤ q)) ⟨⟨B.exec, B.bytes, hml, hown, fun w hw => hts w (List.mem_cons_of_mem _ hw)⟩, B.returns, B.notSynchronized, hK, rfl, hin⟩ rfl
  have hle : (lg_sl As).length ≤ mm.2.2.1 := by rw [gh_sl As hc, List.length_map]; exact hn
  have hl := lv_entry As hle
  rw [lg_entry_eq]
  refine key s.heap [] _ 0 0 hR (fun q h => by cases h) ⟨hl.1, hl.2.1, by rw [hls]; simp; omega, fun i v hi => ?_⟩ (by simp) (by simp)
  rw [hls] at hi
  have hlt : i < As.length := by
    rcases Nat.lt_or_ge i As.length with h | h
    · exact h
    · rw [List.getElem?_append_right (by simpa using h)] at hi
      rw [List.getElem?_replicate] at hi
      split at hi <;> simp at hi
  rw [List.getElem?_append_left (by simpa using hlt)] at hi
  simp at hi
  have hv : v ∈ As := List.mem_of_getElem? hi
  refine ⟨hc v hv, ?_⟩
  obtain ⟨h5, h6⟩ := List.getElem?_eq_some_iff.mp hi
  rw [gh_sl As hc]
  simp [List.getElem?_append, hlt, h6]

section GH
variable {l : Launch} {d : gh_D} {z : gh_Z} {mm : gh_M} {rm : Room} {pc : Nat} {ls : List (Option Value)} {rest : List Value} {g : gh_H} {cb sb : Nat}
theorem gh_iconst (C : gh_X d z mm rm) {n : Int} (v : Int32) (hd : decode mm.2.1 pc = .ok (.iconst n, 1)) (hv : Int32.ofInt n = v) (k : gh_W l d z (pc + 1) ls (.int v :: rest) g cb sb) : gh_W l d z pc ls rest g cb sb := by
  obtain ⟨p, e, R, s, m, args, below, meth, c, nL, Q⟩ := z
  exact fun H locs la ce sl a b h i j => lv_iconst C.1.1 C.1.2.1 hd hv (k H locs la ce sl a b h i j)
theorem gh_bipush (C : gh_X d z mm rm) {n : Int} (v : Int32) (hd : decode mm.2.1 pc = .ok (.bipush n, 2)) (hv : (Int8.ofInt n).toInt32 = v) (k : gh_W l d z (pc + 2) ls (.int v :: rest) g cb sb) : gh_W l d z pc ls rest g cb sb := by
  obtain ⟨p, e, R, s, m, args, below, meth, c, nL, Q⟩ := z
  exact fun H locs la ce sl a b h i j => lv_bipush C.1.1 C.1.2.1 hd hv (k H locs la ce sl a b h i j)
theorem gh_sipush (C : gh_X d z mm rm) {n : Int} (v : Int32) (hd : decode mm.2.1 pc = .ok (.sipush n, 3)) (hv : (Int16.ofInt n).toInt32 = v) (k : gh_W l d z (pc + 3) ls (.int v :: rest) g cb sb) : gh_W l d z pc ls rest g cb sb := by
  obtain ⟨p, e, R, s, m, args, below, meth, c, nL, Q⟩ := z
  exact fun H locs la ce sl a b h i j => lv_sipush C.1.1 C.1.2.1 hd hv (k H locs la ce sl a b h i j)
theorem gh_null (C : gh_X d z mm rm)  (hd : decode mm.2.1 pc = .ok (.aconst_null, 1))  (k : gh_W l d z (pc + 1) ls (.null :: rest) g cb sb) : gh_W l d z pc ls rest g cb sb := by
  obtain ⟨p, e, R, s, m, args, below, meth, c, nL, Q⟩ := z
  exact fun H locs la ce sl a b h i j => lv_null C.1.1 C.1.2.1 hd  (k H locs la ce sl a b h i j)
theorem gh_iadd (C : gh_X d z mm rm) {x y : Int32} (hd : decode mm.2.1 pc = .ok (.iadd, 1))  (k : gh_W l d z (pc + 1) ls (.int (x + y) :: rest) g cb sb) : gh_W l d z pc ls (.int y :: .int x :: rest) g cb sb := by
  obtain ⟨p, e, R, s, m, args, below, meth, c, nL, Q⟩ := z
  exact fun H locs la ce sl a b h i j => lv_iadd C.1.1 C.1.2.1 hd  (k H locs la ce sl a b h i j)
theorem gh_isub (C : gh_X d z mm rm) {x y : Int32} (hd : decode mm.2.1 pc = .ok (.isub, 1))  (k : gh_W l d z (pc + 1) ls (.int (x - y) :: rest) g cb sb) : gh_W l d z pc ls (.int y :: .int x :: rest) g cb sb := by
  obtain ⟨p, e, R, s, m, args, below, meth, c, nL, Q⟩ := z
  exact fun H locs la ce sl a b h i j => lv_isub C.1.1 C.1.2.1 hd  (k H locs la ce sl a b h i j)
theorem gh_imul (C : gh_X d z mm rm) {x y : Int32} (hd : decode mm.2.1 pc = .ok (.imul, 1))  (k : gh_W l d z (pc + 1) ls (.int (x * y) :: rest) g cb sb) : gh_W l d z pc ls (.int y :: .int x :: rest) g cb sb := by
  obtain ⟨p, e, R, s, m, args, below, meth, c, nL, Q⟩ := z
  exact fun H locs la ce sl a b h i j => lv_imul C.1.1 C.1.2.1 hd  (k H locs la ce sl a b h i j)
theorem gh_iand (C : gh_X d z mm rm) {x y : Int32} (hd : decode mm.2.1 pc = .ok (.iand, 1))  (k : gh_W l d z (pc + 1) ls (.int (x &&& y) :: rest) g cb sb) : gh_W l d z pc ls (.int y :: .int x :: rest) g cb sb := by
  obtain ⟨p, e, R, s, m, args, below, meth, c, nL, Q⟩ := z
  exact fun H locs la ce sl a b h i j => lv_iand C.1.1 C.1.2.1 hd  (k H locs la ce sl a b h i j)
theorem gh_ior (C : gh_X d z mm rm) {x y : Int32} (hd : decode mm.2.1 pc = .ok (.ior, 1))  (k : gh_W l d z (pc + 1) ls (.int (x ||| y) :: rest) g cb sb) : gh_W l d z pc ls (.int y :: .int x :: rest) g cb sb := by
  obtain ⟨p, e, R, s, m, args, below, meth, c, nL, Q⟩ := z
  exact fun H locs la ce sl a b h i j => lv_ior C.1.1 C.1.2.1 hd  (k H locs la ce sl a b h i j)
theorem gh_ixor (C : gh_X d z mm rm) {x y : Int32} (hd : decode mm.2.1 pc = .ok (.ixor, 1))  (k : gh_W l d z (pc + 1) ls (.int (x ^^^ y) :: rest) g cb sb) : gh_W l d z pc ls (.int y :: .int x :: rest) g cb sb := by
  obtain ⟨p, e, R, s, m, args, below, meth, c, nL, Q⟩ := z
  exact fun H locs la ce sl a b h i j => lv_ixor C.1.1 C.1.2.1 hd  (k H locs la ce sl a b h i j)
theorem gh_ishl (C : gh_X d z mm rm) {x y : Int32} (hd : decode mm.2.1 pc = .ok (.ishl, 1))  (k : gh_W l d z (pc + 1) ls (.int (x <<< (y &&& 31)) :: rest) g cb sb) : gh_W l d z pc ls (.int y :: .int x :: rest) g cb sb := by
  obtain ⟨p, e, R, s, m, args, below, meth, c, nL, Q⟩ := z
  exact fun H locs la ce sl a b h i j => lv_ishl C.1.1 C.1.2.1 hd  (k H locs la ce sl a b h i j)
theorem gh_ishr (C : gh_X d z mm rm) {x y : Int32} (hd : decode mm.2.1 pc = .ok (.ishr, 1))  (k : gh_W l d z (pc + 1) ls (.int (x >>> (y &&& 31)) :: rest) g cb sb) : gh_W l d z pc ls (.int y :: .int x :: rest) g cb sb := by
  obtain ⟨p, e, R, s, m, args, below, meth, c, nL, Q⟩ := z
  exact fun H locs la ce sl a b h i j => lv_ishr C.1.1 C.1.2.1 hd  (k H locs la ce sl a b h i j)
theorem gh_ineg (C : gh_X d z mm rm) {x : Int32} (hd : decode mm.2.1 pc = .ok (.ineg, 1))  (k : gh_W l d z (pc + 1) ls (.int (-x) :: rest) g cb sb) : gh_W l d z pc ls (.int x :: rest) g cb sb := by
  obtain ⟨p, e, R, s, m, args, below, meth, c, nL, Q⟩ := z
  exact fun H locs la ce sl a b h i j => lv_ineg C.1.1 C.1.2.1 hd  (k H locs la ce sl a b h i j)
theorem gh_i2b (C : gh_X d z mm rm) {x : Int32} (hd : decode mm.2.1 pc = .ok (.i2b, 1))  (k : gh_W l d z (pc + 1) ls (.int x.toInt8.toInt32 :: rest) g cb sb) : gh_W l d z pc ls (.int x :: rest) g cb sb := by
  obtain ⟨p, e, R, s, m, args, below, meth, c, nL, Q⟩ := z
  exact fun H locs la ce sl a b h i j => lv_i2b C.1.1 C.1.2.1 hd rfl (k H locs la ce sl a b h i j)
theorem gh_i2l (C : gh_X d z mm rm) {x : Int32} (hd : decode mm.2.1 pc = .ok (.i2l, 1))  (k : gh_W l d z (pc + 1) ls (.long x.toInt64 :: rest) g cb sb) : gh_W l d z pc ls (.int x :: rest) g cb sb := by
  obtain ⟨p, e, R, s, m, args, below, meth, c, nL, Q⟩ := z
  exact fun H locs la ce sl a b h i j => lv_i2l C.1.1 C.1.2.1 hd rfl (k H locs la ce sl a b h i j)
theorem gh_dup (C : gh_X d z mm rm) {va : Value} (hd : decode mm.2.1 pc = .ok (.dup, 1)) (hva : va.category = 1) (k : gh_W l d z (pc + 1) ls (va :: va :: rest) g cb sb) : gh_W l d z pc ls (va :: rest) g cb sb := by
  obtain ⟨p, e, R, s, m, args, below, meth, c, nL, Q⟩ := z
  exact fun H locs la ce sl a b h i j => lv_dup C.1.1 C.1.2.1 hd hva (k H locs la ce sl a b h i j)
theorem gh_pop (C : gh_X d z mm rm) {va : Value} (hd : decode mm.2.1 pc = .ok (.pop, 1)) (hva : va.category = 1) (k : gh_W l d z (pc + 1) ls rest g cb sb) : gh_W l d z pc ls (va :: rest) g cb sb := by
  obtain ⟨p, e, R, s, m, args, below, meth, c, nL, Q⟩ := z
  exact fun H locs la ce sl a b h i j => lv_pop C.1.1 C.1.2.1 hd hva (k H locs la ce sl a b h i j)
theorem gh_dup_x1 (C : gh_X d z mm rm) {va vb : Value} (hd : decode mm.2.1 pc = .ok (.dup_x1, 1)) (hva : va.category = 1) (hvb : vb.category = 1) (k : gh_W l d z (pc + 1) ls (va :: vb :: va :: rest) g cb sb) : gh_W l d z pc ls (va :: vb :: rest) g cb sb := by
  obtain ⟨p, e, R, s, m, args, below, meth, c, nL, Q⟩ := z
  exact fun H locs la ce sl a b h i j => lv_dup_x1 C.1.1 C.1.2.1 hd hva hvb (k H locs la ce sl a b h i j)
theorem gh_dup_x2 (C : gh_X d z mm rm) {va vb vd : Value} (hd : decode mm.2.1 pc = .ok (.dup_x2, 1)) (hva : va.category = 1) (hvb : vb.category = 1) (hvd : vd.category = 1) (k : gh_W l d z (pc + 1) ls (va :: vb :: vd :: va :: rest) g cb sb) : gh_W l d z pc ls (va :: vb :: vd :: rest) g cb sb := by
  obtain ⟨p, e, R, s, m, args, below, meth, c, nL, Q⟩ := z
  exact fun H locs la ce sl a b h i j => lv_dup_x2 C.1.1 C.1.2.1 hd hva hvb hvd (k H locs la ce sl a b h i j)
theorem gh_dup2 (C : gh_X d z mm rm) {va vb : Value} (hd : decode mm.2.1 pc = .ok (.dup2, 1)) (hva : va.category = 1) (hvb : vb.category = 1) (k : gh_W l d z (pc + 1) ls (va :: vb :: va :: vb :: rest) g cb sb) : gh_W l d z pc ls (va :: vb :: rest) g cb sb := by
  obtain ⟨p, e, R, s, m, args, below, meth, c, nL, Q⟩ := z
  exact fun H locs la ce sl a b h i j => lv_dup2_11 C.1.1 C.1.2.1 hd hva hvb (k H locs la ce sl a b h i j)
theorem gh_iload_n (C : gh_X d z mm rm) {k : Fin 4} {x : Int32} (hd : decode mm.2.1 pc = .ok (.iload_n k, 1)) (hi : ls[(k : Nat)]? = some (some (.int x))) (kk : gh_W l d z (pc + 1) ls (.int x :: rest) g cb sb) : gh_W l d z pc ls rest g cb sb := by
  obtain ⟨p, e, R, s, m, args, below, meth, c, nL, Q⟩ := z
  exact fun H locs la ce sl a b h i j => lv_iload_n C.1.1 C.1.2.1 hd rfl (h.at hi) (kk H locs la ce sl a b h i j)
theorem gh_iload (C : gh_X d z mm rm) {k : Nat} {x : Int32} (hd : decode mm.2.1 pc = .ok (.iload k, 2)) (hi : ls[k]? = some (some (.int x))) (kk : gh_W l d z (pc + 2) ls (.int x :: rest) g cb sb) : gh_W l d z pc ls rest g cb sb := by
  obtain ⟨p, e, R, s, m, args, below, meth, c, nL, Q⟩ := z
  exact fun H locs la ce sl a b h i j => lv_iload C.1.1 C.1.2.1 hd (h.at hi) (kk H locs la ce sl a b h i j)
theorem gh_aload_n (C : gh_X d z mm rm) {k : Fin 4} {x : Nat} (hd : decode mm.2.1 pc = .ok (.aload_n k, 1)) (hi : ls[(k : Nat)]? = some (some (.ref x))) (kk : gh_W l d z (pc + 1) ls (.ref x :: rest) g cb sb) : gh_W l d z pc ls rest g cb sb := by
  obtain ⟨p, e, R, s, m, args, below, meth, c, nL, Q⟩ := z
  exact fun H locs la ce sl a b h i j => lv_aload_n C.1.1 C.1.2.1 hd rfl (h.at hi) (kk H locs la ce sl a b h i j)
theorem gh_aload (C : gh_X d z mm rm) {k : Nat} {x : Nat} (hd : decode mm.2.1 pc = .ok (.aload k, 2)) (hi : ls[k]? = some (some (.ref x))) (kk : gh_W l d z (pc + 2) ls (.ref x :: rest) g cb sb) : gh_W l d z pc ls rest g cb sb := by
  obtain ⟨p, e, R, s, m, args, below, meth, c, nL, Q⟩ := z
  exact fun H locs la ce sl a b h i j => lv_aload C.1.1 C.1.2.1 hd (h.at hi) (kk H locs la ce sl a b h i j)
theorem gh_istore_n (C : gh_X d z mm rm) {k : Fin 4} {x : Int32} (ls1 : List (Option Value)) (hd : decode mm.2.1 pc = .ok (.istore_n k, 1)) (hs : ls.set (k : Nat) (some (.int x)) = ls1) (hk : (k : Nat) < ls.length) (kk : gh_W l d z (pc + 1) ls1 rest g cb sb) : gh_W l d z pc ls (.int x :: rest) g cb sb := by
  obtain ⟨p, e, R, s, m, args, below, meth, c, nL, Q⟩ := z
  intro H locs la ce sl a b h i j
  subst hs
  obtain ⟨la1, e1, h1⟩ := h.store (v := .int x) hk rfl
  intro T hT X
  obtain ⟨t, a1, b1⟩ := kk H locs la1 ce sl a b h1 i j T hT X
  refine ⟨t, ?_, b1⟩
  have hx := C.1.1
  have hb := C.1.2.1
  jvm_step X.here [X.here.top, ↓top_set X.here.top, hx, hb, hd, e1]
  exact a1
theorem gh_istore (C : gh_X d z mm rm) {k : Nat} {x : Int32} (ls1 : List (Option Value)) (hd : decode mm.2.1 pc = .ok (.istore k, 2)) (hs : ls.set (k : Nat) (some (.int x)) = ls1) (hk : (k : Nat) < ls.length) (kk : gh_W l d z (pc + 2) ls1 rest g cb sb) : gh_W l d z pc ls (.int x :: rest) g cb sb := by
  obtain ⟨p, e, R, s, m, args, below, meth, c, nL, Q⟩ := z
  intro H locs la ce sl a b h i j
  subst hs
  obtain ⟨la1, e1, h1⟩ := h.store (v := .int x) hk rfl
  intro T hT X
  obtain ⟨t, a1, b1⟩ := kk H locs la1 ce sl a b h1 i j T hT X
  refine ⟨t, ?_, b1⟩
  have hx := C.1.1
  have hb := C.1.2.1
  jvm_step X.here [X.here.top, ↓top_set X.here.top, hx, hb, hd, e1]
  exact a1
theorem gh_astore_n (C : gh_X d z mm rm) {k : Fin 4} {x : Nat} (ls1 : List (Option Value)) (hd : decode mm.2.1 pc = .ok (.astore_n k, 1)) (hs : ls.set (k : Nat) (some (.ref x)) = ls1) (hk : (k : Nat) < ls.length) (kk : gh_W l d z (pc + 1) ls1 rest g cb sb) : gh_W l d z pc ls (.ref x :: rest) g cb sb := by
  obtain ⟨p, e, R, s, m, args, below, meth, c, nL, Q⟩ := z
  intro H locs la ce sl a b h i j
  subst hs
  obtain ⟨la1, e1, h1⟩ := h.store (v := .ref x) hk rfl
  intro T hT X
  obtain ⟨t, a1, b1⟩ := kk H locs la1 ce sl a b h1 i j T hT X
  refine ⟨t, ?_, b1⟩
  have hx := C.1.1
  have hb := C.1.2.1
  jvm_step X.here [X.here.top, ↓top_set X.here.top, hx, hb, hd, e1]
  exact ⟨rfl, a1⟩
theorem gh_astore (C : gh_X d z mm rm) {k : Nat} {x : Nat} (ls1 : List (Option Value)) (hd : decode mm.2.1 pc = .ok (.astore k, 2)) (hs : ls.set (k : Nat) (some (.ref x)) = ls1) (hk : (k : Nat) < ls.length) (kk : gh_W l d z (pc + 2) ls1 rest g cb sb) : gh_W l d z pc ls (.ref x :: rest) g cb sb := by
  obtain ⟨p, e, R, s, m, args, below, meth, c, nL, Q⟩ := z
  intro H locs la ce sl a b h i j
  subst hs
  obtain ⟨la1, e1, h1⟩ := h.store (v := .ref x) hk rfl
  intro T hT X
  obtain ⟨t, a1, b1⟩ := kk H locs la1 ce sl a b h1 i j T hT X
  refine ⟨t, ?_, b1⟩
  have hx := C.1.1
  have hb := C.1.2.1
  jvm_step X.here [X.here.top, ↓top_set X.here.top, hx, hb, hd, e1]
  exact ⟨rfl, a1⟩
theorem gh_iinc (C : gh_X d z mm rm) {k : Nat} {n : Int} {x : Int32} (v : Int32) (ls1 : List (Option Value)) (hd : decode mm.2.1 pc = .ok (.iinc k n, 3)) (hi : ls[k]? = some (some (.int x))) (hv : x + Int32.ofInt n = v) (hs : ls.set k (some (.int v)) = ls1) (kk : gh_W l d z (pc + 3) ls1 rest g cb sb) : gh_W l d z pc ls rest g cb sb := by
  obtain ⟨p, e, R, s, m, args, below, meth, c, nL, Q⟩ := z
  intro H locs la ce sl a b h i j
  subst hs
  subst hv
  obtain ⟨la1, e1, h1⟩ := h.store (v := .int (x + Int32.ofInt n)) (List.getElem?_eq_some_iff.mp hi).1 rfl
  have hg := h.at hi
  intro T hT X
  obtain ⟨t, a1, b1⟩ := kk H locs la1 ce sl a b h1 i j T hT X
  refine ⟨t, ?_, b1⟩
  have hx := C.1.1
  have hb := C.1.2.1
  jvm_step X.here [X.here.top, ↓top_set X.here.top, hx, hb, hd, hg, e1]
  exact a1
theorem gh_if_eq (C : gh_X d z mm rm) {x : Int32} {off : Int} (tgt : Nat) (hd : decode mm.2.1 pc = .ok (.ifCond .eq off, 3)) (ht : (pc : Int) + off = (tgt : Int)) (kt : x = 0 → gh_W l d z tgt ls rest g cb sb) (kf : ¬ x = 0 → gh_W l d z (pc + 3) ls rest g cb sb) : gh_W l d z pc ls (.int x :: rest) g cb sb := by
  obtain ⟨p, e, R, s, m, args, below, meth, c, nL, Q⟩ := z
  exact fun H locs la ce sl a b h i j => lv_if_eq C.1.1 C.1.2.1 hd ht (fun q => kt q H locs la ce sl a b h i j) (fun q => kf q H locs la ce sl a b h i j)
theorem gh_icmp_eq (C : gh_X d z mm rm) {x y : Int32} {off : Int} (tgt : Nat) (hd : decode mm.2.1 pc = .ok (.if_icmp .eq off, 3)) (ht : (pc : Int) + off = (tgt : Int)) (kt : x = y → gh_W l d z tgt ls rest g cb sb) (kf : ¬ x = y → gh_W l d z (pc + 3) ls rest g cb sb) : gh_W l d z pc ls (.int y :: .int x :: rest) g cb sb := by
  obtain ⟨p, e, R, s, m, args, below, meth, c, nL, Q⟩ := z
  exact fun H locs la ce sl a b h i j => lv_icmp_eq C.1.1 C.1.2.1 hd ht (fun q => kt q H locs la ce sl a b h i j) (fun q => kf q H locs la ce sl a b h i j)
theorem gh_if_ne (C : gh_X d z mm rm) {x : Int32} {off : Int} (tgt : Nat) (hd : decode mm.2.1 pc = .ok (.ifCond .ne off, 3)) (ht : (pc : Int) + off = (tgt : Int)) (kt : ¬ x = 0 → gh_W l d z tgt ls rest g cb sb) (kf : x = 0 → gh_W l d z (pc + 3) ls rest g cb sb) : gh_W l d z pc ls (.int x :: rest) g cb sb := by
  obtain ⟨p, e, R, s, m, args, below, meth, c, nL, Q⟩ := z
  exact fun H locs la ce sl a b h i j => lv_if_ne C.1.1 C.1.2.1 hd ht (fun q => kt q H locs la ce sl a b h i j) (fun q => kf q H locs la ce sl a b h i j)
theorem gh_icmp_ne (C : gh_X d z mm rm) {x y : Int32} {off : Int} (tgt : Nat) (hd : decode mm.2.1 pc = .ok (.if_icmp .ne off, 3)) (ht : (pc : Int) + off = (tgt : Int)) (kt : ¬ x = y → gh_W l d z tgt ls rest g cb sb) (kf : x = y → gh_W l d z (pc + 3) ls rest g cb sb) : gh_W l d z pc ls (.int y :: .int x :: rest) g cb sb := by
  obtain ⟨p, e, R, s, m, args, below, meth, c, nL, Q⟩ := z
  exact fun H locs la ce sl a b h i j => lv_icmp_ne C.1.1 C.1.2.1 hd ht (fun q => kt q H locs la ce sl a b h i j) (fun q => kf q H locs la ce sl a b h i j)
theorem gh_if_lt (C : gh_X d z mm rm) {x : Int32} {off : Int} (tgt : Nat) (hd : decode mm.2.1 pc = .ok (.ifCond .lt off, 3)) (ht : (pc : Int) + off = (tgt : Int)) (kt : x < 0 → gh_W l d z tgt ls rest g cb sb) (kf : ¬ x < 0 → gh_W l d z (pc + 3) ls rest g cb sb) : gh_W l d z pc ls (.int x :: rest) g cb sb := by
  obtain ⟨p, e, R, s, m, args, below, meth, c, nL, Q⟩ := z
  exact fun H locs la ce sl a b h i j => lv_if_lt C.1.1 C.1.2.1 hd ht (fun q => kt q H locs la ce sl a b h i j) (fun q => kf q H locs la ce sl a b h i j)
theorem gh_icmp_lt (C : gh_X d z mm rm) {x y : Int32} {off : Int} (tgt : Nat) (hd : decode mm.2.1 pc = .ok (.if_icmp .lt off, 3)) (ht : (pc : Int) + off = (tgt : Int)) (kt : x < y → gh_W l d z tgt ls rest g cb sb) (kf : ¬ x < y → gh_W l d z (pc + 3) ls rest g cb sb) : gh_W l d z pc ls (.int y :: .int x :: rest) g cb sb := by
  obtain ⟨p, e, R, s, m, args, below, meth, c, nL, Q⟩ := z
  exact fun H locs la ce sl a b h i j => lv_icmp_lt C.1.1 C.1.2.1 hd ht (fun q => kt q H locs la ce sl a b h i j) (fun q => kf q H locs la ce sl a b h i j)
theorem gh_if_ge (C : gh_X d z mm rm) {x : Int32} {off : Int} (tgt : Nat) (hd : decode mm.2.1 pc = .ok (.ifCond .ge off, 3)) (ht : (pc : Int) + off = (tgt : Int)) (kt : 0 ≤ x → gh_W l d z tgt ls rest g cb sb) (kf : ¬ 0 ≤ x → gh_W l d z (pc + 3) ls rest g cb sb) : gh_W l d z pc ls (.int x :: rest) g cb sb := by
  obtain ⟨p, e, R, s, m, args, below, meth, c, nL, Q⟩ := z
  exact fun H locs la ce sl a b h i j => lv_if_ge C.1.1 C.1.2.1 hd ht (fun q => kt q H locs la ce sl a b h i j) (fun q => kf q H locs la ce sl a b h i j)
theorem gh_icmp_ge (C : gh_X d z mm rm) {x y : Int32} {off : Int} (tgt : Nat) (hd : decode mm.2.1 pc = .ok (.if_icmp .ge off, 3)) (ht : (pc : Int) + off = (tgt : Int)) (kt : y ≤ x → gh_W l d z tgt ls rest g cb sb) (kf : ¬ y ≤ x → gh_W l d z (pc + 3) ls rest g cb sb) : gh_W l d z pc ls (.int y :: .int x :: rest) g cb sb := by
  obtain ⟨p, e, R, s, m, args, below, meth, c, nL, Q⟩ := z
  exact fun H locs la ce sl a b h i j => lv_icmp_ge C.1.1 C.1.2.1 hd ht (fun q => kt q H locs la ce sl a b h i j) (fun q => kf q H locs la ce sl a b h i j)
theorem gh_if_gt (C : gh_X d z mm rm) {x : Int32} {off : Int} (tgt : Nat) (hd : decode mm.2.1 pc = .ok (.ifCond .gt off, 3)) (ht : (pc : Int) + off = (tgt : Int)) (kt : 0 < x → gh_W l d z tgt ls rest g cb sb) (kf : ¬ 0 < x → gh_W l d z (pc + 3) ls rest g cb sb) : gh_W l d z pc ls (.int x :: rest) g cb sb := by
  obtain ⟨p, e, R, s, m, args, below, meth, c, nL, Q⟩ := z
  exact fun H locs la ce sl a b h i j => lv_if_gt C.1.1 C.1.2.1 hd ht (fun q => kt q H locs la ce sl a b h i j) (fun q => kf q H locs la ce sl a b h i j)
theorem gh_icmp_gt (C : gh_X d z mm rm) {x y : Int32} {off : Int} (tgt : Nat) (hd : decode mm.2.1 pc = .ok (.if_icmp .gt off, 3)) (ht : (pc : Int) + off = (tgt : Int)) (kt : y < x → gh_W l d z tgt ls rest g cb sb) (kf : ¬ y < x → gh_W l d z (pc + 3) ls rest g cb sb) : gh_W l d z pc ls (.int y :: .int x :: rest) g cb sb := by
  obtain ⟨p, e, R, s, m, args, below, meth, c, nL, Q⟩ := z
  exact fun H locs la ce sl a b h i j => lv_icmp_gt C.1.1 C.1.2.1 hd ht (fun q => kt q H locs la ce sl a b h i j) (fun q => kf q H locs la ce sl a b h i j)
theorem gh_if_le (C : gh_X d z mm rm) {x : Int32} {off : Int} (tgt : Nat) (hd : decode mm.2.1 pc = .ok (.ifCond .le off, 3)) (ht : (pc : Int) + off = (tgt : Int)) (kt : x ≤ 0 → gh_W l d z tgt ls rest g cb sb) (kf : ¬ x ≤ 0 → gh_W l d z (pc + 3) ls rest g cb sb) : gh_W l d z pc ls (.int x :: rest) g cb sb := by
  obtain ⟨p, e, R, s, m, args, below, meth, c, nL, Q⟩ := z
  exact fun H locs la ce sl a b h i j => lv_if_le C.1.1 C.1.2.1 hd ht (fun q => kt q H locs la ce sl a b h i j) (fun q => kf q H locs la ce sl a b h i j)
theorem gh_icmp_le (C : gh_X d z mm rm) {x y : Int32} {off : Int} (tgt : Nat) (hd : decode mm.2.1 pc = .ok (.if_icmp .le off, 3)) (ht : (pc : Int) + off = (tgt : Int)) (kt : x ≤ y → gh_W l d z tgt ls rest g cb sb) (kf : ¬ x ≤ y → gh_W l d z (pc + 3) ls rest g cb sb) : gh_W l d z pc ls (.int y :: .int x :: rest) g cb sb := by
  obtain ⟨p, e, R, s, m, args, below, meth, c, nL, Q⟩ := z
  exact fun H locs la ce sl a b h i j => lv_icmp_le C.1.1 C.1.2.1 hd ht (fun q => kt q H locs la ce sl a b h i j) (fun q => kf q H locs la ce sl a b h i j)
theorem gh_goto (C : gh_X d z mm rm) {off : Int} (tgt : Nat) (hd : decode mm.2.1 pc = .ok (.goto off, 3)) (ht : (pc : Int) + off = (tgt : Int)) (k : gh_W l d z tgt ls rest g cb sb) : gh_W l d z pc ls rest g cb sb := by
  obtain ⟨p, e, R, s, m, args, below, meth, c, nL, Q⟩ := z
  exact fun H locs la ce sl a b h i j => lv_goto C.1.1 C.1.2.1 hd ht (k H locs la ce sl a b h i j)
theorem gh_tabIn (C : gh_X d z mm rm) {dflt lo hi : Int} {offs : Array Int} {len : Nat} {x : Int32} {off : Int} (tgt : Nat) (hd : decode mm.2.1 pc = .ok (.tableswitch dflt lo hi offs, len)) (h1 : ¬ x.toInt < lo) (h2 : ¬ hi < x.toInt) (ho : offs[(x.toInt - lo).toNat]? = some off) (ht : (pc : Int) + off = (tgt : Int)) (k : gh_W l d z tgt ls rest g cb sb) : gh_W l d z pc ls (.int x :: rest) g cb sb := by
  obtain ⟨p, e, R, s, m, args, below, meth, c, nL, Q⟩ := z
  exact fun H locs la ce sl a b h i j => lv_tableIn C.1.1 C.1.2.1 hd h1 h2 ho ht (k H locs la ce sl a b h i j)
theorem gh_tabOut (C : gh_X d z mm rm) {dflt lo hi : Int} {offs : Array Int} {len : Nat} {x : Int32} (tgt : Nat) (hd : decode mm.2.1 pc = .ok (.tableswitch dflt lo hi offs, len)) (h : x.toInt < lo ∨ hi < x.toInt) (ht : (pc : Int) + dflt = (tgt : Int)) (k : gh_W l d z tgt ls rest g cb sb) : gh_W l d z pc ls (.int x :: rest) g cb sb := by
  obtain ⟨p, e, R, s, m, args, below, meth, c, nL, Q⟩ := z
  exact fun H locs la ce sl a b h9 i j => lv_tableOut C.1.1 C.1.2.1 hd h ht (k H locs la ce sl a b h9 i j)
theorem gh_forget (C : gh_X d z mm rm) (ls1 : List (Option Value)) (hl : ls1.length = ls.length) (hf : ∀ (i : Nat) (v : Value), ls1[i]? = some (some v) → ls[i]? = some (some v)) (k : gh_W l d z pc ls1 rest g cb sb) : gh_W l d z pc ls rest g cb sb := by
  obtain ⟨p, e, R, s, m, args, below, meth, c, nL, Q⟩ := z
  exact fun H locs la ce sl a b h i j => k H locs la ce sl a b (h.forget hl hf) i j
theorem gh_less (C : gh_X d z mm rm) (cb1 sb1 : Nat) (h1 : cb1 ≤ cb) (h2 : sb1 ≤ sb) (k : gh_W l d z pc ls rest g cb1 sb1) : gh_W l d z pc ls rest g cb sb := by
  obtain ⟨p, e, R, s, m, args, below, meth, c, nL, Q⟩ := z
  exact fun H locs la ce sl a b h i j => k H locs la ce sl a b h (by omega) (by omega)
/-- a field that an instruction at 'index' of class own names: of class ci, slot k -/
def gh_F (own : String) (index ci k : Nat) : Prop := ∃ r : vw_C, gh_cl[ci]? = some r ∧ k < r.2.2 ∧ (∀ w ∈ u_ws r.1 r.2.1 r.2.2, w ∈ gh_T) ∧ (Cond.fieldLink own index (r.2.1 k).1 (r.2.1 k).2.1 (r.2.1 k).2.2.1 ∈ gh_T ∨ ∃ host : String, Cond.fieldLinkNest own index (r.2.1 k).1 (r.2.1 k).2.1 (r.2.1 k).2.2.1 host ∈ gh_nw)
theorem gh_R.at {H : Heap} (h : gh_R d g H) {k : gh_K} {a : Nat} {x : gh_E} (hk : g k = some (a, x)) : va_P d.1 gh_cl [(a, gh_e d x)] H := fun i q hi => by
  have : i < 1 := (List.getElem?_eq_some_iff.mp hi).1
  rw [show i = 0 by omega] at hi
  cases hi
  exact (h.2.2.1 k a x hk).1
/-- a cell is written: the rest stays -/
theorem gh_R.put {H H1 : Heap} (h : gh_R d g H) {k : gh_K} {a : Nat} {x x1 : gh_E} (hk : g k = some (a, x)) (hz : H1.size = H.size) (ho : ∀ q : Nat, q ≠ a → H1[q]? = H[q]?) (hn : va_at d.1 gh_cl (a, gh_e d x1) H1) : gh_R d (gh_u g k (a, x1)) H1 := by
  obtain ⟨h1, h2, h3, h4⟩ := h
  have hla := (h3 k a x hk).2
  refine ⟨by omega, fun q hq => (ho q (by omega)).trans (h2 q hq), fun k2 b y hy => ?_, fun k1 k2 b y1 y2 e1 e2 => ?_⟩
  · by_cases he : k2 = k
    · subst he
      rw [gh_us] at hy
      cases hy
      exact ⟨hn, hla⟩
    · rw [gh_un he] at hy
      have hb : b ≠ a := fun e => he (h4 k2 k b y x hy (by rw [e]; exact hk))
      exact ⟨(h3 k2 b y hy).1.kept (ho b hb), (h3 k2 b y hy).2⟩
  · by_cases he1 : k1 = k
    · by_cases he2 : k2 = k
      · rw [he1, he2]
      · rw [he1, gh_us] at e1
        rw [gh_un he2] at e2
        cases e1
        exact (he2 (h4 k2 k a y2 x e2 hk)).elim
    · rw [gh_un he1] at e1
      by_cases he2 : k2 = k
      · rw [he2, gh_us] at e2
        cases e2
        exact (he1 (h4 k1 k a y1 x e1 hk)).elim
      · rw [gh_un he2] at e2
        exact h4 k1 k2 b y1 y2 e1 e2
/-- a new cell -/
theorem gh_R.push {H H1 : Heap} (h : gh_R d g H) {k : gh_K} {x1 : gh_E} (hz : H1.size = H.size + 1) (ho : ∀ q : Nat, q < H.size → H1[q]? = H[q]?) (hn : va_at d.1 gh_cl (H.size, gh_e d x1) H1) : gh_R d (gh_u g k (H.size, x1)) H1 := by
  obtain ⟨h1, h2, h3, h4⟩ := h
  have hlt : ∀ (k2 : gh_K) (b : Nat) (y : gh_E), g k2 = some (b, y) → b < H.size := fun k2 b y hy => (h3 k2 b y hy).1.lt
  refine ⟨by omega, fun q hq => (ho q (by omega)).trans (h2 q hq), fun k2 b y hy => ?_, fun k1 k2 b y1 y2 e1 e2 => ?_⟩
  · by_cases he : k2 = k
    · subst he
      rw [gh_us] at hy
      cases hy
      exact ⟨hn, h1⟩
    · rw [gh_un he] at hy
      exact ⟨(h3 k2 b y hy).1.kept (ho b (hlt k2 b y hy)), (h3 k2 b y hy).2⟩
  · by_cases he1 : k1 = k
    · by_cases he2 : k2 = k
      · rw [he1, he2]
      · rw [he1, gh_us] at e1
        rw [gh_un he2] at e2
        cases e1
        exact absurd (hlt k2 _ y2 e2) (Nat.lt_irrefl _)
    · rw [gh_un he1] at e1
      by_cases he2 : k2 = k
      · rw [he2, gh_us] at e2
        cases e2
        exact absurd (hlt k1 _ y1 e1) (Nat.lt_irrefl _)
      · rw [gh_un he2] at e2
        exact h4 k1 k2 b y1 y2 e1 e2
theorem gh_lo {locs : List Loc} {lo a i : Nat} (h : ∀ q ∈ locs, lo ≤ q.base) (ha : lo ≤ a) : ∀ q ∈ locs ++ [(⟨a, i⟩ : Loc)], lo ≤ q.base := fun q hq => by
  rcases List.mem_append.mp hq with h1 | h1
  · exact h q h1
  · rw [List.mem_singleton] at h1
    subst h1
    exact ha
theorem gh_get (C : gh_X d z mm rm) {index ci k a : Nat} {K : gh_K} {fs : List Value} {v : Value} (hF : gh_F mm.1.cls index ci k) (hg : g K = some (a, .inr (ci, fs))) (hv : fs[k]? = some v) (hd : decode mm.2.1 pc = .ok (.getfield index, 3)) (kk : gh_W l d z (pc + 3) ls (v :: rest) g cb sb) : gh_W l d z pc ls (.ref a :: rest) g cb sb := by
  obtain ⟨p, e, R, s, m, args, below, meth, c, nL, Q⟩ := z
  obtain ⟨⟨hx, hb, hml, hown, hts⟩, hr, hlk, hK, hR, hnm⟩ := C
  obtain ⟨⟨C1, T, N⟩, hc, hk, hin, hl⟩ := hF
  intro H locs la ce sl hG hlo hL i j
  rcases hl with hl | ⟨host, hl⟩
  · exact va_get hx hb hts hin hown hK.1 (hG.at hg) 0 rfl hc k hk (hts _ hl) (fun _ h9 => h9) hv hd (kk H locs la ce sl hG hlo hL i j)
  · exact va_getN hx hb hts hin hown hK.1 (hG.at hg) 0 rfl hc k hk (va_Nw.use rfl (hK.2.2 _ hl)) (fun _ h9 => h9) hv hd (kk H locs la ce sl hG hlo hL i j)
/-- a field that an instruction writes: of class ci, slot k, of this type; final or not -/
def gh_FP (own : String) (index ci k : Nat) (ty : FieldType) (fin : Bool) : Prop := ∃ (r : vw_C) (ty0 : Nat → FieldType), gh_cl[ci]? = some r ∧ k < r.2.2 ∧ (∀ w ∈ u_ws r.1 r.2.1 r.2.2, w ∈ gh_T) ∧ (∀ j, j < r.2.2 → parseFieldDescriptor (r.2.1 j).2.2.1 = some (ty0 j)) ∧ (∀ a, a < r.2.2 → ∀ b, b < r.2.2 → a ≠ b → (r.2.1 a).2.1 ≠ (r.2.1 b).2.1) ∧ parseFieldDescriptor (r.2.1 k).2.2.1 = some ty ∧ (r.2.1 k).2.2.2 = fin ∧
  (Cond.fieldLink own index (r.2.1 k).1 (r.2.1 k).2.1 (r.2.1 k).2.2.1 ∈ gh_T ∧ (fin = true → (r.2.1 k).1 = own) ∨ fin = false ∧ ∃ host : String, Cond.fieldLinkNest own index (r.2.1 k).1 (r.2.1 k).2.1 (r.2.1 k).2.2.1 host ∈ gh_nw)
theorem gh_put (C : gh_X d z mm rm) {index ci k a : Nat} {ty : FieldType} {fin : Bool} {K : gh_K} {fs : List Value} {v : Value} (hF : gh_FP mm.1.cls index ci k ty fin) (hfi : fin = true → mm.1.name = "<init>") (hg : g K = some (a, .inr (ci, fs))) (hv : k < fs.length) (hn : narrow ty v = v) (hft : fits ty v = true) (hd : decode mm.2.1 pc = .ok (.putfield index, 3)) (kk : gh_W l d z (pc + 3) ls rest (gh_u g K (a, .inr (ci, fs.set k v))) cb sb) : gh_W l d z pc ls (v :: .ref a :: rest) g cb sb := by
  obtain ⟨p, e, R, s, m, args, below, meth, c, nL, Q⟩ := z
  obtain ⟨⟨hx, hb, hml, hown, hts⟩, hr, hlk, hK, hR, hnm⟩ := C
  obtain ⟨⟨C1, T, N⟩, ty0, hc, hk, hin, hty, hnn, hpd, hfin, hl⟩ := hF
  intro H locs la ce sl hG hlo hL i j
  have hap := va_apart (own := mm.1.cls) hts hin ty0 hty hnn hK.1 hc
  have hat := hG.2.2.1 K a _ hg
  obtain ⟨⟨r, h1, cell, q1, q2, q3, q4⟩, hla⟩ := hat
  have hr : r = (C1, T, N) := Option.some.inj (h1.symm.trans hc)
  subst hr
  obtain ⟨hS, hfc, kC, hkC, hkind⟩ := hK.1.1 ci _ hc
  obtain ⟨cf, kf, fi, f, hi, hsl⟩ := hS k hk
  have hst := (u_facts hfc hkC (u_lays hts hin hk) hi).1
  have fin9 : ∀ (H1 : Heap), H1[a]? = some (cell.setSlot f.slot v) → H1.size = H.size → (∀ q : Nat, q ≠ a → H1[q]? = H[q]?) → W p l e R s m args below meth c H1 (locs ++ [⟨a, f.slot⟩]) ce sl Q (F0 m (pc + 3) la rest) := by
    intro H1 e1 e2 e3
    rw [hsl] at e1 ⊢
    exact kk H1 _ la ce sl (hG.put hg e2 e3 ⟨_, hc, t_OB.to (V := updV (vp_V fs) k v) ⟨_, e1, q2, q3, t_set q4 hap hk v⟩ (fun j _ => vp_updV_set hv v j)⟩) (gh_lo hlo hla) hL i j
  have hlay := hts _ (hin _ (u_in_lay hk))
  unfold u_lay at hlay
  cases fin with
  | false =>
    rw [if_neg (by rw [hfin]; decide)] at hlay
    have h6 := u_store hfc hkC hkind hlay hi hpd hn hft
    rcases hl with ⟨hl, -⟩ | ⟨-, host, hl⟩
    · exact W.putK hx hb (f := f) ⟨hown, hts _ hl, ⟨_, _, _, hi⟩, hst⟩ (by rw [q2]; exact h6) q1 q3 (by rw [hsl]; exact k2_hasslot (q4 k hk)) rfl rfl hd fin9
    · exact va_WputK hx hb (f := f) hown (va_Nw.use rfl (hK.2.2 _ hl)) hi hst (by rw [q2]; exact h6) q1 q3 (by rw [hsl]; exact k2_hasslot (q4 k hk)) rfl rfl hd fin9
  | true =>
    rw [if_pos hfin] at hlay
    rcases hl with ⟨hl, hdecl⟩ | ⟨hl, -⟩
    · have hcf : m.cls = cf := by
        obtain ⟨_, _, c', _, _, _, -, -, hf', -, -, -, hown2, -⟩ := Cond.laysFinal_spec hlay
        have e1 : c' = cf := by have := hi.symm.trans hf'; simp at this; exact this.1.symm
        rw [hdecl rfl] at hown2
        rw [← e1]; exact Option.some.inj (hown.symm.trans hown2)
      have h6 := u_fits hfc hkC hkind (Or.inr hlay) hi hpd hn hft
      exact W.putFinK hx hb hown (hts _ hl) hi hst hcf (hnm.trans (hfi rfl)) (by rw [q2]; exact h6) q1 q3 (by rw [hsl]; exact k2_hasslot (q4 k hk)) rfl rfl hd fin9
    · cases hl
theorem gh_iald (C : gh_X d z mm rm) {t a n : Nat} {K : gh_K} {f : Nat → Int32} {i : Int32} (hg : g K = some (a, .inl (t, n, .inl f))) (ht : gh_ty[t]? = some .int) (hin : vp_in i n) (hd : decode mm.2.1 pc = .ok (.iaload, 1)) (kk : gh_W l d z (pc + 1) ls (.int (f i.toNatClampNeg) :: rest) g cb sb) : gh_W l d z pc ls (.int i :: .ref a :: rest) g cb sb := by
  obtain ⟨p, e, R, s, m, args, below, meth, c, nL, Q⟩ := z
  obtain ⟨⟨hx, hb, hml, hown, hts⟩, hr, hlk, hK, hR, hnm⟩ := C
  have hK1 : va_K d.1 gh_cl [(d.2.1 t, .int)] s := ⟨hK.1.1, fun k q hq => by
    have : k < 1 := (List.getElem?_eq_some_iff.mp hq).1
    rw [show k = 0 by omega] at hq
    cases hq
    exact hK.2.1 t _ ht⟩
  exact fun H locs la ce sl hG hlo hL i j => va_iald hx hb hK1 (hG.at hg) 0 0 rfl rfl hin hd (kk H locs la ce sl hG hlo hL i j)
theorem gh_bald (C : gh_X d z mm rm) {t a n : Nat} {K : gh_K} {f : Nat → Int32} {i : Int32} (hg : g K = some (a, .inl (t, n, .inl f))) (ht : gh_ty[t]? = some .byte) (hin : vp_in i n) (hd : decode mm.2.1 pc = .ok (.baload, 1)) (kk : gh_W l d z (pc + 1) ls (.int (f i.toNatClampNeg) :: rest) g cb sb) : gh_W l d z pc ls (.int i :: .ref a :: rest) g cb sb := by
  obtain ⟨p, e, R, s, m, args, below, meth, c, nL, Q⟩ := z
  obtain ⟨⟨hx, hb, hml, hown, hts⟩, hr, hlk, hK, hR, hnm⟩ := C
  have hK1 : va_K d.1 gh_cl [(d.2.1 t, .byte)] s := ⟨hK.1.1, fun k q hq => by
    have : k < 1 := (List.getElem?_eq_some_iff.mp hq).1
    rw [show k = 0 by omega] at hq
    cases hq
    exact hK.2.1 t _ ht⟩
  exact fun H locs la ce sl hG hlo hL i j => va_bald hx hb hK1 (hG.at hg) 0 0 rfl rfl hin hd (kk H locs la ce sl hG hlo hL i j)
theorem gh_zald (C : gh_X d z mm rm) {t a n : Nat} {K : gh_K} {f : Nat → Int32} {i : Int32} (hg : g K = some (a, .inl (t, n, .inl f))) (ht : gh_ty[t]? = some .boolean) (hin : vp_in i n) (hd : decode mm.2.1 pc = .ok (.baload, 1)) (kk : gh_W l d z (pc + 1) ls (.int (f i.toNatClampNeg) :: rest) g cb sb) : gh_W l d z pc ls (.int i :: .ref a :: rest) g cb sb := by
  obtain ⟨p, e, R, s, m, args, below, meth, c, nL, Q⟩ := z
  obtain ⟨⟨hx, hb, hml, hown, hts⟩, hr, hlk, hK, hR, hnm⟩ := C
  have hK1 : va_K d.1 gh_cl [(d.2.1 t, .boolean)] s := ⟨hK.1.1, fun k q hq => by
    have : k < 1 := (List.getElem?_eq_some_iff.mp hq).1
    rw [show k = 0 by omega] at hq
    cases hq
    exact hK.2.1 t _ ht⟩
  exact fun H locs la ce sl hG hlo hL i j => va_zald hx hb hK1 (hG.at hg) 0 0 rfl rfl hin hd (kk H locs la ce sl hG hlo hL i j)
theorem gh_lald (C : gh_X d z mm rm) {t a n : Nat} {K : gh_K} {f : Nat → Int64} {i : Int32} (hg : g K = some (a, .inl (t, n, .inr (.inl f)))) (ht : gh_ty[t]? = some .long) (hin : vp_in i n) (hd : decode mm.2.1 pc = .ok (.laload, 1)) (kk : gh_W l d z (pc + 1) ls (.long (f i.toNatClampNeg) :: rest) g cb sb) : gh_W l d z pc ls (.int i :: .ref a :: rest) g cb sb := by
  obtain ⟨p, e, R, s, m, args, below, meth, c, nL, Q⟩ := z
  obtain ⟨⟨hx, hb, hml, hown, hts⟩, hr, hlk, hK, hR, hnm⟩ := C
  have hK1 : va_K d.1 gh_cl [(d.2.1 t, .long)] s := ⟨hK.1.1, fun k q hq => by
    have : k < 1 := (List.getElem?_eq_some_iff.mp hq).1
    rw [show k = 0 by omega] at hq
    cases hq
    exact hK.2.1 t _ ht⟩
  exact fun H locs la ce sl hG hlo hL i j => va_lald hx hb hK1 (hG.at hg) 0 0 rfl rfl hin hd (kk H locs la ce sl hG hlo hL i j)
theorem gh_aald (C : gh_X d z mm rm) {t a n : Nat} {C1 : String} {K : gh_K} {f : Nat → Option Nat} {i : Int32} (hg : g K = some (a, .inl (t, n, .inr (.inr (.inr (.inr f)))))) (ht : gh_ty[t]? = some (.object C1)) (hin : vp_in i n) (hd : decode mm.2.1 pc = .ok (.aaload, 1)) (kk : gh_W l d z (pc + 1) ls (va_rf (f i.toNatClampNeg) :: rest) g cb sb) : gh_W l d z pc ls (.int i :: .ref a :: rest) g cb sb := by
  obtain ⟨p, e, R, s, m, args, below, meth, c, nL, Q⟩ := z
  obtain ⟨⟨hx, hb, hml, hown, hts⟩, hr, hlk, hK, hR, hnm⟩ := C
  have hK1 : va_K d.1 gh_cl [(d.2.1 t, .object C1)] s := ⟨hK.1.1, fun k q hq => by
    have : k < 1 := (List.getElem?_eq_some_iff.mp hq).1
    rw [show k = 0 by omega] at hq
    cases hq
    exact hK.2.1 t _ ht⟩
  exact fun H locs la ce sl hG hlo hL i j => va_aldq hx hb hK1 (hG.at hg) 0 0 rfl rfl hin hd (kk H locs la ce sl hG hlo hL i j)
theorem gh_alen (C : gh_X d z mm rm) {t a : Nat} {K : gh_K} {q : vp_A} {ty : FieldType} (hg : g K = some (a, .inl (t, q))) (ht : gh_ty[t]? = some ty) (hd : decode mm.2.1 pc = .ok (.arraylength, 1)) (kk : gh_W l d z (pc + 1) ls (.int (nI q.1) :: rest) g cb sb) : gh_W l d z pc ls (.ref a :: rest) g cb sb := by
  obtain ⟨p, e, R, s, m, args, below, meth, c, nL, Q⟩ := z
  obtain ⟨⟨hx, hb, hml, hown, hts⟩, hr, hlk, hK, hR, hnm⟩ := C
  have hK1 : va_K d.1 gh_cl [(d.2.1 t, ty)] s := ⟨hK.1.1, fun k q hq => by
    have : k < 1 := (List.getElem?_eq_some_iff.mp hq).1
    rw [show k = 0 by omega] at hq
    cases hq
    exact hK.2.1 t _ ht⟩
  exact fun H locs la ce sl hG hlo hL i j => va_alen hx hb hK1 (hG.at hg) 0 0 rfl rfl rfl hd (kk H locs la ce sl hG hlo hL i j)
theorem gh_iast (C : gh_X d z mm rm) {t a n : Nat} {K : gh_K} {f : Nat → Int32} {i : Int32} {x : Int32} (hg : g K = some (a, .inl (t, n, .inl f))) (ht : gh_ty[t]? = some .int) (hin : vp_in i n) (hd : decode mm.2.1 pc = .ok (.iastore, 1)) (kk : gh_W l d z (pc + 1) ls rest (gh_u g K (a, .inl (t, n, .inl (upd f i.toNatClampNeg x)))) cb sb) : gh_W l d z pc ls (.int x :: .int i :: .ref a :: rest) g cb sb := by
  obtain ⟨p, e, R, s, m, args, below, meth, c, nL, Q⟩ := z
  obtain ⟨⟨hx, hb, hml, hown, hts⟩, hr, hlk, hK, hR, hnm⟩ := C
  intro H locs la ce sl hG hlo hL i9 j9
  obtain ⟨hat, hla⟩ := hG.2.2.1 K a _ hg
  refine W.iast hx hb hat ((hK.2.1 t _ ht).1 n (fun j => .int (f j))) (fun q => by cases q) (by show ¬ (i < 0 ∨ (arrV _ _ _).slots.size ≤ _); rw [arrV_size]; exact hin) rfl rfl hd fun H1 e1 e2 e3 => ?_
  refine kk H1 _ la ce sl (hG.put hg e2 e3 ?_) (gh_lo hlo hla) hL i9 j9
  have e1 : H1[a]? = some ((vp_cell (d.2.1 t) (n, .inl f)).setSlot i.toNatClampNeg (.int x)) := e1
  show H1[a]? = some (vp_cell (d.2.1 t) (n, .inl (upd f i.toNatClampNeg x)))
  rw [e1]
  rw [vp_cell_i, vp_cell_i, arrV_store]
  congr 2
  funext q
  by_cases hq : q = i.toNatClampNeg
  · subst hq
    simp [updV, upd]
  · simp [updV, upd, hq]
theorem gh_bast (C : gh_X d z mm rm) {t a n : Nat} {K : gh_K} {f : Nat → Int32} {i : Int32} {x : Int32} (hg : g K = some (a, .inl (t, n, .inl f))) (ht : gh_ty[t]? = some .byte) (hin : vp_in i n) (hd : decode mm.2.1 pc = .ok (.bastore, 1)) (kk : gh_W l d z (pc + 1) ls rest (gh_u g K (a, .inl (t, n, .inl (upd f i.toNatClampNeg (vp_nar .byte x))))) cb sb) : gh_W l d z pc ls (.int x :: .int i :: .ref a :: rest) g cb sb := by
  obtain ⟨p, e, R, s, m, args, below, meth, c, nL, Q⟩ := z
  obtain ⟨⟨hx, hb, hml, hown, hts⟩, hr, hlk, hK, hR, hnm⟩ := C
  intro H locs la ce sl hG hlo hL i9 j9
  obtain ⟨hat, hla⟩ := hG.2.2.1 K a _ hg
  refine W.bast hx hb hat ((hK.2.1 t _ ht).1 n (fun j => .int (f j))) (fun q => by cases q) (by show ¬ (i < 0 ∨ (arrV _ _ _).slots.size ≤ _); rw [arrV_size]; exact hin) rfl rfl hd fun H1 e1 e2 e3 => ?_
  refine kk H1 _ la ce sl (hG.put hg e2 e3 ?_) (gh_lo hlo hla) hL i9 j9
  have e1 : H1[a]? = some ((vp_cell (d.2.1 t) (n, .inl f)).setSlot i.toNatClampNeg (narrow .byte (.int x))) := e1
  show H1[a]? = some (vp_cell (d.2.1 t) (n, .inl (upd f i.toNatClampNeg (vp_nar .byte x))))
  rw [e1]
  rw [vp_cell_i, vp_cell_i, arrV_store]
  congr 2
  funext q
  by_cases hq : q = i.toNatClampNeg
  · subst hq
    simp [updV, upd, vp_nar]
    try rfl
  · simp [updV, upd, vp_nar, hq]
theorem gh_zast (C : gh_X d z mm rm) {t a n : Nat} {K : gh_K} {f : Nat → Int32} {i : Int32} {x : Int32} (hg : g K = some (a, .inl (t, n, .inl f))) (ht : gh_ty[t]? = some .boolean) (hin : vp_in i n) (hd : decode mm.2.1 pc = .ok (.bastore, 1)) (kk : gh_W l d z (pc + 1) ls rest (gh_u g K (a, .inl (t, n, .inl (upd f i.toNatClampNeg (vp_nar .boolean x))))) cb sb) : gh_W l d z pc ls (.int x :: .int i :: .ref a :: rest) g cb sb := by
  obtain ⟨p, e, R, s, m, args, below, meth, c, nL, Q⟩ := z
  obtain ⟨⟨hx, hb, hml, hown, hts⟩, hr, hlk, hK, hR, hnm⟩ := C
  intro H locs la ce sl hG hlo hL i9 j9
  obtain ⟨hat, hla⟩ := hG.2.2.1 K a _ hg
  refine W.zast hx hb hat ((hK.2.1 t _ ht).1 n (fun j => .int (f j))) (fun q => by cases q) (by show ¬ (i < 0 ∨ (arrV _ _ _).slots.size ≤ _); rw [arrV_size]; exact hin) rfl rfl hd fun H1 e1 e2 e3 => ?_
  refine kk H1 _ la ce sl (hG.put hg e2 e3 ?_) (gh_lo hlo hla) hL i9 j9
  have e1 : H1[a]? = some ((vp_cell (d.2.1 t) (n, .inl f)).setSlot i.toNatClampNeg (narrow .boolean (.int x))) := e1
  show H1[a]? = some (vp_cell (d.2.1 t) (n, .inl (upd f i.toNatClampNeg (vp_nar .boolean x))))
  rw [e1]
  rw [vp_cell_i, vp_cell_i, arrV_store]
  congr 2
  funext q
  by_cases hq : q = i.toNatClampNeg
  · subst hq
    simp [updV, upd, vp_nar]
    try rfl
  · simp [updV, upd, vp_nar, hq]
theorem gh_last (C : gh_X d z mm rm) {t a n : Nat} {K : gh_K} {f : Nat → Int64} {i : Int32} {x : Int64} (hg : g K = some (a, .inl (t, n, .inr (.inl f)))) (ht : gh_ty[t]? = some .long) (hin : vp_in i n) (hd : decode mm.2.1 pc = .ok (.lastore, 1)) (kk : gh_W l d z (pc + 1) ls rest (gh_u g K (a, .inl (t, n, .inr (.inl (vp_updL f i.toNatClampNeg x))))) cb sb) : gh_W l d z pc ls (.long x :: .int i :: .ref a :: rest) g cb sb := by
  obtain ⟨p, e, R, s, m, args, below, meth, c, nL, Q⟩ := z
  obtain ⟨⟨hx, hb, hml, hown, hts⟩, hr, hlk, hK, hR, hnm⟩ := C
  intro H locs la ce sl hG hlo hL i9 j9
  obtain ⟨hat, hla⟩ := hG.2.2.1 K a _ hg
  refine W.last hx hb hat ((hK.2.1 t _ ht).1 n (fun j => .long (f j))) (fun q => by cases q) (by show ¬ (i < 0 ∨ (arrV _ _ _).slots.size ≤ _); rw [arrV_size]; exact hin) rfl rfl hd fun H1 e1 e2 e3 => ?_
  refine kk H1 _ la ce sl (hG.put hg e2 e3 ?_) (gh_lo hlo hla) hL i9 j9
  have e1 : H1[a]? = some ((vp_cell (d.2.1 t) (n, .inr (.inl f))).setSlot i.toNatClampNeg (.long x)) := e1
  show H1[a]? = some (vp_cell (d.2.1 t) (n, .inr (.inl (vp_updL f i.toNatClampNeg x))))
  rw [e1]
  rw [vp_cell_l, vp_cell_l, arrV_store]
  congr 2
  funext q
  by_cases hq : q = i.toNatClampNeg
  · subst hq
    simp [updV, vp_updL]
    try rfl
  · simp [updV, vp_updL, hq]
theorem gh_aast (C : gh_X d z mm rm) {t a n ci v : Nat} {K Kv : gh_K} {r : vw_C} {fs : List Value} {f : Nat → Option Nat} {i : Int32} (hg : g K = some (a, .inl (t, n, .inr (.inr (.inr (.inr f)))))) (ht : gh_ty[t]? = some (.object r.1)) (hgv : g Kv = some (v, .inr (ci, fs))) (hc : gh_cl[ci]? = some r) (hin : vp_in i n) (hd : decode mm.2.1 pc = .ok (.aastore, 1)) (kk : gh_W l d z (pc + 1) ls rest (gh_u g K (a, .inl (t, n, .inr (.inr (.inr (.inr (va_up f i.toNatClampNeg (some v)))))))) cb sb) : gh_W l d z pc ls (.ref v :: .int i :: .ref a :: rest) g cb sb := by
  obtain ⟨p, e, R, s, m, args, below, meth, c, nL, Q⟩ := z
  obtain ⟨⟨hx, hb, hml, hown, hts⟩, hr, hlk, hK, hR, hnm⟩ := C
  intro H locs la ce sl hG hlo hL i9 j9
  obtain ⟨hat, hla⟩ := hG.2.2.1 K a _ hg
  obtain ⟨⟨r', hr', cellV, g1, g2, g3, -⟩, -⟩ := hG.2.2.1 Kv v _ hgv
  have hlt : i.toNatClampNeg < n := Nat.not_le.mp fun q => hin (Or.inr q)
  have h0 : ¬ i < 0 := fun q => hin (Or.inl q)
  have hcls := (hK.1.1 ci r hc).2
  obtain ⟨kA, comp, k1, k2, k3, -⟩ := (hK.2.1 t _ ht).2
  have hcomp : comp = d.1.1 ci := Option.some.inj (k3.symm.trans hcls.1)
  subst hcomp
  obtain ⟨kC, hkC, -⟩ := id hcls.2
  refine W.aast hx hb hat (fun q h => by cases h) (fun h => by cases h) k1 k2 rfl hkC ⟨h0, by show _ < (arrV _ _ _).slots.size; rw [arrV_size]; exact hlt⟩ g1 (fun q h => by rw [g3] at h; cases h) (by rw [g2]; exact hkC) (by rw [g2]; exact va_assign hcls) rfl rfl hd fun H1 e1 e2 e3 => ?_
  refine kk H1 _ la ce sl (hG.put hg e2 e3 ?_) (gh_lo hlo hla) hL i9 j9
  have e1 : H1[a]? = some ((vp_cell (d.2.1 t) (n, .inr (.inr (.inr (.inr f))))).setSlot i.toNatClampNeg (.ref v)) := e1
  show H1[a]? = some (vp_cell (d.2.1 t) (n, .inr (.inr (.inr (.inr (va_up f i.toNatClampNeg (some v)))))))
  rw [e1]
  rw [vp_cell_q, vp_cell_q, arrV_store]
  congr 2
  funext q
  by_cases hq : q = i.toNatClampNeg
  · subst hq
    simp [updV, va_up, va_rf]
    try rfl
  · simp [updV, va_up, va_rf, hq]
/-- a class that an instruction at 'index' of class own makes: number ci, n fields, blank they are fs -/
def gh_N (own : String) (index ci n : Nat) (fs : List Value) : Prop := ∃ (r : vw_C) (ty : Nat → FieldType), gh_cl[ci]? = some r ∧ r.2.2 = n ∧ (∀ w ∈ u_ws r.1 r.2.1 r.2.2, w ∈ gh_T) ∧ (∀ k, k < r.2.2 → parseFieldDescriptor (r.2.1 k).2.2.1 = some (ty k)) ∧ Cond.classLink own index r.1 ∈ gh_T ∧ Cond.instantiable r.1 n ∈ gh_T ∧ Cond.initialized r.1 ∈ gh_T ∧ ∀ j, j < n → defaultValue (ty j) = vp_V fs j
theorem gh_new (C : gh_X d z mm rm) {index ci n : Nat} {fs : List Value} (K : gh_K) (hN : gh_N mm.1.cls index ci n fs) (cb1 sb1 : Nat) (h1 : cb1 + 1 ≤ cb) (h2 : sb1 + n ≤ sb) (hd : decode mm.2.1 pc = .ok (.new index, 3)) (kk : ∀ a : Nat, (∀ (k : gh_K) (b : Nat) (x : gh_E), g k = some (b, x) → b ≠ a) → gh_W l d z (pc + 3) ls (.ref a :: rest) (gh_u g K (a, .inr (ci, fs))) cb1 sb1) : gh_W l d z pc ls rest g cb sb := by
  obtain ⟨p, e, R, s, m, args, below, meth, c, nL, Q⟩ := z
  obtain ⟨⟨hx, hb, hml, hown, hts⟩, hr, hlk, hK, hR, hnm⟩ := C
  obtain ⟨⟨C1, T, N⟩, ty, hc, hn, hin, hty, w1, w2, w3, hfs⟩ := hN
  have hn : N = n := hn
  subst hn
  intro H locs la ce sl hG hlo hL i9 j9
  have hKn := hK.1.1 ci _ hc
  refine W.newcK hx hb hown (hts _ w1) (hts _ w2) (hts _ w3) rfl hd (by omega) (by omega) hKn.2.1 rfl fun H1 kC hkC e1 z1 o1 => ?_
  refine kk H.size (fun k b x hk => Nat.ne_of_lt (hG.2.2.1 k b x hk).1.lt) H1 locs la (ce + 1) (sl + N) (hG.push z1 o1 ?_) hlo hL (by omega) (by omega)
  exact ⟨_, hc, (u_born ty hts hin hKn hkC e1 hty).to hfs⟩
theorem gh_newa (C : gh_X d z mm rm) {atype : ArrayType} {t : Nat} {ty : FieldType} {n : Int32} {N : Nat} {q0 : vp_A} (K : gh_K) (ht : gh_ty[t]? = some ty) (hty : newarray.typeOf atype = ty) (hw : Cond.arrayClass ty ∈ gh_T) (hp : ∀ C1 : String, ty ≠ .object C1) (ha : ∀ cA : ClassId, vp_cell cA q0 = arrV cA N (fun _ => defaultValue ty)) (hn : ¬ n < 0) (hN : n.toNatClampNeg = N) (hbytes : N * componentBytes ty ≤ 536870912) (cb1 sb1 : Nat) (h1 : cb1 + 1 ≤ cb) (h2 : sb1 + N ≤ sb) (hd : decode mm.2.1 pc = .ok (.newarray atype, 2)) (kk : ∀ a : Nat, (∀ (k : gh_K) (b : Nat) (x : gh_E), g k = some (b, x) → b ≠ a) → gh_W l d z (pc + 2) ls (.ref a :: rest) (gh_u g K (a, .inl (t, q0))) cb1 sb1) : gh_W l d z pc ls (.int n :: rest) g cb sb := by
  obtain ⟨p, e, R, s, m, args, below, meth, c, nL, Q⟩ := z
  obtain ⟨⟨hx, hb, hml, hown, hts⟩, hr, hlk, hK, hR, hnm⟩ := C
  subst hty
  intro H locs la ce sl hG hlo hL i9 j9
  refine va_newaK hx hb (hts _ hw) rfl hd rfl hn hN hbytes (by omega) (by omega) rfl fun H1 cA e1 z1 o1 hAr hNm => ?_
  refine kk H.size (fun k b x hk => Nat.ne_of_lt (hG.2.2.1 k b x hk).1.lt) H1 locs la (ce + 1) (sl + N) (hG.push z1 o1 ?_) hlo hL (by omega) (by omega)
  show H1[H.size]? = some (vp_cell _ _)
  have hcA : d.2.1 t = cA := by
    have h9 := (hK.2.1 t _ ht).2
    have h8 : s.vm.findClass ("[" ++ (newarray.typeOf atype).toString) = some (d.2.1 t) := by
      generalize newarray.typeOf atype = ty at h9 hp
      cases ty with
      | object C1 => exact absurd rfl (hp C1)
      | _ => exact h9
    exact Option.some.inj (h8.symm.trans hNm)
  rw [ha, hcA]
  exact e1
theorem gh_anew (C : gh_X d z mm rm) {index t : Nat} {C1 : String} {n : Int32} {N : Nat} (K : gh_K) (ht : gh_ty[t]? = some (.object C1)) (w1 : Cond.classLink mm.1.cls index C1 ∈ gh_T) (w2 : Cond.arrayOver (.object C1) ∈ gh_nw) (hn : ¬ n < 0) (hN : n.toNatClampNeg = N) (hbytes : N * 4 ≤ 536870912) (cb1 sb1 : Nat) (h1 : cb1 + 1 ≤ cb) (h2 : sb1 + N ≤ sb) (hd : decode mm.2.1 pc = .ok (.anewarray index, 3)) (kk : ∀ a : Nat, (∀ (k : gh_K) (b : Nat) (x : gh_E), g k = some (b, x) → b ≠ a) → gh_W l d z (pc + 3) ls (.ref a :: rest) (gh_u g K (a, .inl (t, N, .inr (.inr (.inr (.inr (fun _ => none))))))) cb1 sb1) : gh_W l d z pc ls (.int n :: rest) g cb sb := by
  obtain ⟨p, e, R, s, m, args, below, meth, c, nL, Q⟩ := z
  obtain ⟨⟨hx, hb, hml, hown, hts⟩, hr, hlk, hK, hR, hnm⟩ := C
  subst hN
  intro H locs la ce sl hG hlo hL i9 j9
  refine W.anew hx hb hown (hts _ w1) (va_AO.use (hK.2.2 _ w2)) rfl hd rfl hn hbytes (by omega) (by omega) fun cA kA comp f1 f2 f3 f4 => ?_
  generalize hH1 : H.push ({ cls := cA, slots := Array.replicate n.toNatClampNeg .null, vm := .none } : Cell) = H1
  have z1 : H1.size = H.size + 1 := by rw [← hH1, Array.size_push]
  have e1 : H1[H.size]? = some (arrV cA n.toNatClampNeg (fun _ => .null)) := by rw [← hH1, Array.getElem?_push_size, ← arrV_new]
  have o1 : ∀ q : Nat, q < H.size → H1[q]? = H[q]? := fun q hq => by rw [← hH1, Array.getElem?_push, if_neg (Nat.ne_of_lt hq)]
  refine kk H.size (fun k b x hk => Nat.ne_of_lt (hG.2.2.1 k b x hk).1.lt) H1 locs la (ce + 1) (sl + n.toNatClampNeg) (hG.push z1 o1 ?_) hlo hL (by omega) (by omega)
  show H1[H.size]? = some (vp_cell _ _)
  obtain ⟨kA2, comp2, k1, k2, k3, k4⟩ := (hK.2.1 t _ ht).2
  have hcA : d.2.1 t = cA := Option.some.inj (k4.symm.trans f1)
  rw [vp_cell_q, hcA]
  exact e1
/-- the words of a call at 'index' of class own -/
def gh_ML (own : String) (index : Nat) (y : MethodName) : Prop := Cond.methodLink own index y ∈ gh_T ∨ ∃ host : String, Cond.methodLinkNest own index y host ∈ gh_nw
def gh_MW (mm : gh_M) (n : Nat) : Prop := Cond.code mm.1 mm.2.1 mm.2.2.1 mm.2.2.2 ∈ gh_T ∧ Cond.initialized mm.1.cls ∈ gh_T ∧ mm.1.cls ≠ "java/lang/invoke/MethodHandle" ∧ mm.1.cls ≠ "java/lang/invoke/VarHandle" ∧ (parseMethodDescriptor mm.1.desc).map (fun d => d.parameters.length) = some n
theorem gh_GI {mm : gh_M} {n : Nat} (h : gh_MW mm n) : GoodIn gh_T (.code mm.1 mm.2.1 mm.2.2.1 mm.2.2.2 :: gh_T) := fun w hw => by
  rcases List.mem_cons.mp hw with rfl | h1
  · exact ⟨h.1, gh_T_good _ h.1⟩
  · exact ⟨h1, gh_T_good _ h1⟩
/-- what a call's run gives -/
theorem gh_run {rm1 : Room} {st : List Value} {Po : Option Value → gh_H → Prop} {As : Array Value} (hc : rm1.cells ≤ cb) (hs : rm1.slots ≤ sb)
    (hr : match z with | (p, e, R, s, m, args, below, meth, c, nL, _) => ∀ (H : Heap) (locs : List Loc) (la : Array Slot) (cells slots : Nat), gh_R d g H → gh_L la nL ls → cells + cb ≤ R.cells → slots + sb ≤ R.slots → va_Run p l e R s m args below meth c H locs cells slots rm1.cells rm1.slots (F0 m pc la st) rest (gh_Qc d Po As) (fun q => d.2.2.size ≤ q))
    (kk : ∀ (v : Option Value) (g1 : gh_H), Po v g1 → gh_W l d z (pc + 3) ls (v.toList ++ rest) g1 (cb - rm1.cells) (sb - rm1.slots)) : gh_W l d z pc ls st g cb sb := by
  obtain ⟨p, e, R, s, m, args, below, meth, c, nL, Q⟩ := z
  intro H locs la ce sl hG hlo hL i9 j9 T hT X
  obtain ⟨v, st₀, t, T', L, h0, X', hl2, e1, e2, ⟨v', g1, ho, hpo, hR1⟩, stp⟩ := hr H locs la ce sl hG hL i9 j9 T hT X
  cases ho
  obtain ⟨t2, a1, b1⟩ := kk v g1 hpo T'.heap (locs ++ L) la (ce + rm1.cells) (sl + rm1.slots) (by rw [e1]; exact hR1) (fun q hq => by
    rcases List.mem_append.mp hq with h | h
    · exact hlo q h
    · exact hl2 q h) hL (by omega) (by omega) T' rfl X'
  exact ⟨t2, stp t2 a1, b1⟩
theorem gh_callV (C : gh_X d z mm rm) {m1 : gh_M} {rm1 : Room} {index n a ci : Nat} {K : gh_K} {r : vw_C} {fs : List Value} (As : List Value) {st : List Value} {Po : Option Value → gh_H → Prop} (hM : gh_C l d m1 rm1 (.ref a :: As) g Po) (hl : gh_ML mm.1.cls index m1.1) (hw : gh_MW m1 n) (hi : Cond.instanceMethod m1.1 ∈ gh_T ∧ Cond.selects r.1 m1.1 m1.1 ∈ gh_T) (hg : g K = some (a, .inr (ci, fs))) (hcl : gh_cl[ci]? = some r) (hn : As.length = n) (hst : st = As.reverse ++ .ref a :: rest) (hcat : (rest.map fun v => v.category).sum ≤ 8) (hf : rm1.frames + 1 ≤ rm.frames ∧ 8 + (m1.2.2.1 + 11) + rm1.locals ≤ rm.locals) (hc : rm1.cells ≤ cb) (hs : rm1.slots ≤ sb) (hd : decode mm.2.1 pc = .ok (.invokevirtual index, 3))
    (kk : ∀ (v : Option Value) (g1 : gh_H), Po v g1 → gh_W l d z (pc + 3) ls (v.toList ++ rest) g1 (cb - rm1.cells) (sb - rm1.slots)) : gh_W l d z pc ls st g cb sb := by
  refine gh_run (rm1 := rm1) (As := (Value.ref a :: As).toArray) hc hs ?_ kk
  obtain ⟨p, e, R, s, m, args, below, meth, c, nL, Q⟩ := z
  obtain ⟨⟨hx, hb, hml, hown, hts⟩, hr, hlk, hK, hR, hnm⟩ := C
  subst hR
  intro H locs la ce sl hG hL i9 j9
  have hrecv := va_recv hK.1 (hG.at hg) hcl (q0 := 0) rfl
  have hp : PreV s H r.1 a (gh_P d (.ref a :: As) g) As := ⟨gh_P.blind, hrecv, fun U hU hW => ⟨rfl, by rw [hU]; exact hG, hK.warm hW⟩⟩
  rcases hl with hl | ⟨host, hl⟩
  · exact va_runV (n := n) ⟨hx, hb, hml, hown, hts⟩ hM ⟨callB_of n hts (gh_GI hw) rfl rfl rfl (hts _ hw.2.1) (hts _ hl) hw.2.2 hf, hts _ hi.1, hts _ hi.2⟩ hp rfl hn hL.1 hst (lv_room hcat) hd ⟨by omega, by omega⟩
  · exact va_runVN (n := n) (host := host) ⟨hx, hb, hml, hown, hts⟩ hM ⟨va_cnB n hts (gh_GI hw) rfl rfl rfl (hK.2.2 _ hl) (hts _ hw.2.1) hw.2.2 hf, hts _ hi.1, hts _ hi.2⟩ hp rfl hn hL.1 hst (lv_room hcat) hd ⟨by omega, by omega⟩
theorem gh_callS (C : gh_X d z mm rm) {m1 : gh_M} {rm1 : Room} {index n : Nat} (As : List Value) {st : List Value} {Po : Option Value → gh_H → Prop} (hM : gh_C l d m1 rm1 As g Po) (hl : gh_ML mm.1.cls index m1.1) (hw : gh_MW m1 n) (hi : Cond.static m1.1 ∈ gh_T) (hn : As.length = n) (hst : st = As.reverse ++ rest) (hcat : (rest.map fun v => v.category).sum ≤ 8) (hf : rm1.frames + 1 ≤ rm.frames ∧ 8 + (m1.2.2.1 + 11) + rm1.locals ≤ rm.locals) (hc : rm1.cells ≤ cb) (hs : rm1.slots ≤ sb) (hd : decode mm.2.1 pc = .ok (.invokestatic index, 3))
    (kk : ∀ (v : Option Value) (g1 : gh_H), Po v g1 → gh_W l d z (pc + 3) ls (v.toList ++ rest) g1 (cb - rm1.cells) (sb - rm1.slots)) : gh_W l d z pc ls st g cb sb := by
  refine gh_run (rm1 := rm1) (As := As.toArray) hc hs ?_ kk
  obtain ⟨p, e, R, s, m, args, below, meth, c, nL, Q⟩ := z
  obtain ⟨⟨hx, hb, hml, hown, hts⟩, hr, hlk, hK, hR, hnm⟩ := C
  subst hR
  intro H locs la ce sl hG hL i9 j9
  have hp : PreS s H (gh_P d As g) As := ⟨gh_P.blind, fun U hU hW => ⟨rfl, by rw [hU]; exact hG, hK.warm hW⟩⟩
  rcases hl with hl | ⟨host, hl⟩
  · exact va_runS (n := n) ⟨hx, hb, hml, hown, hts⟩ hM ⟨callB_of n hts (gh_GI hw) rfl rfl rfl (hts _ hw.2.1) (hts _ hl) hw.2.2 hf, hts _ hi⟩ hp rfl hn hL.1 hst (lv_room hcat) hd ⟨by omega, by omega⟩
  · exact va_runSN (n := n) (host := host) ⟨hx, hb, hml, hown, hts⟩ hM ⟨va_cnB n hts (gh_GI hw) rfl rfl rfl (hK.2.2 _ hl) (hts _ hw.2.1) hw.2.2 hf, hts _ hi, trivial⟩ hp rfl hn hL.1 hst (lv_room hcat) hd ⟨by omega, by omega⟩
theorem gh_callI (C : gh_X d z mm rm) {m1 : gh_M} {rm1 : Room} {index n a : Nat} (As : List Value) {st : List Value} {Po : Option Value → gh_H → Prop} (hM : gh_C l d m1 rm1 (.ref a :: As) g Po) (hl : gh_ML mm.1.cls index m1.1) (hw : gh_MW m1 n) (hi : Cond.instanceMethod m1.1 ∈ gh_T) (h0 : m1.1.name = "<init>") (hret : m1.2.2.2 = none) (hn : As.length = n) (hst : st = As.reverse ++ .ref a :: rest) (hcat : (rest.map fun v => v.category).sum ≤ 8) (hf : rm1.frames + 1 ≤ rm.frames ∧ 8 + (m1.2.2.1 + 11) + rm1.locals ≤ rm.locals) (hc : rm1.cells ≤ cb) (hs : rm1.slots ≤ sb) (hd : decode mm.2.1 pc = .ok (.invokespecial index, 3))
    (kk : ∀ (v : Option Value) (g1 : gh_H), Po v g1 → gh_W l d z (pc + 3) ls (v.toList ++ rest) g1 (cb - rm1.cells) (sb - rm1.slots)) : gh_W l d z pc ls st g cb sb := by
  refine gh_run (rm1 := rm1) (As := (Value.ref a :: As).toArray) hc hs ?_ kk
  obtain ⟨p, e, R, s, m, args, below, meth, c, nL, Q⟩ := z
  obtain ⟨⟨hx, hb, hml, hown, hts⟩, hr, hlk, hK, hR, hnm⟩ := C
  subst hR
  intro H locs la ce sl hG hL i9 j9
  obtain ⟨y1, b1, n1, ret1⟩ := m1
  dsimp only at hret
  subst hret
  have hp : PreS s H (gh_P d (.ref a :: As) g) (.ref a :: As) := ⟨gh_P.blind, fun U hU hW => ⟨rfl, by rw [hU]; exact hG, hK.warm hW⟩⟩
  rcases hl with hl | ⟨host, hl⟩
  · exact va_runI (n := n) ⟨hx, hb, hml, hown, hts⟩ hM ⟨callB_of n hts (gh_GI hw) rfl rfl rfl (hts _ hw.2.1) (hts _ hl) hw.2.2 hf, h0, hts _ hi⟩ hp rfl hn hL.1 hst (lv_room hcat) hd ⟨by omega, by omega⟩
  · exact va_runIN (n := n) (host := host) ⟨hx, hb, hml, hown, hts⟩ hM ⟨va_cnB n hts (gh_GI hw) rfl rfl rfl (hK.2.2 _ hl) (hts _ hw.2.1) hw.2.2 hf, h0, hts _ hi⟩ hp rfl hn hL.1 hst (lv_room hcat) hd ⟨by omega, by omega⟩
theorem gh_obj (C : gh_X d z mm rm) {index a : Nat} (hl : Cond.methodLink mm.1.cls index objectInit ∈ gh_T) (hi : Cond.instanceMethod objectInit ∈ gh_T) (hcd : Cond.code objectInit ⟨#[0xb1]⟩ 1 none ∈ gh_T) (hcat : (rest.map fun v => v.category).sum ≤ 8) (hf : 1 ≤ rm.frames ∧ 20 ≤ rm.locals) (hd : decode mm.2.1 pc = .ok (.invokespecial index, 3)) (kk : gh_W l d z (pc + 3) ls rest g cb sb) : gh_W l d z pc ls (.ref a :: rest) g cb sb := by
  obtain ⟨p, e, R, s, m, args, below, meth, c, nL, Q⟩ := z
  obtain ⟨⟨hx, hb, hml, hown, hts⟩, hr, hlk, hK, hR, hnm⟩ := C
  subst hR
  intro H locs la ce sl hG hlo hL i9 j9
  have h8 : 2 * (F0 m pc la (.ref a :: rest)).monitorRoom + (rest.map fun v => v.category).sum ≤ 8 := lv_room hcat
  exact W.objInit hx hb hown (hts _ hl) (hts _ hi) (hts _ hcd) rfl (hL.1.trans hml.symm) rfl hd hf.1 (by omega) (kk H locs la ce sl hG hlo hL i9 j9)
theorem gh_iret (C : gh_X d z mm rm) {Po : Option Value → gh_H → Prop} (hQ : gh_Q d z Po) {v : Int32} (hi : mm.2.2.2 = some .int) (hd : decode mm.2.1 pc = .ok (.ireturn, 1)) (hp : Po (some (.int v)) g) : gh_W l d z pc ls [.int v] g cb sb := by
  obtain ⟨p, e, R, s, m, args, below, meth, c, nL, Q⟩ := z
  obtain ⟨⟨hx, hb, hml, hown, hts⟩, hr, hlk, hK, hR, hnm⟩ := C
  have hQ : Q = _ := hQ
  subst hQ
  intro H locs la ce sl hG hlo hL i9 j9
  refine W.widen (k := R.cells) (n := R.slots) (by omega) (by omega) ?_
  exact W.iret (v := v) hx hb (hr.trans hi) (fun t ht hW => ⟨_, g, rfl, hp, by rw [ht]; exact hG⟩) hlo hd
theorem gh_zret (C : gh_X d z mm rm) {Po : Option Value → gh_H → Prop} (hQ : gh_Q d z Po) {v : Int32} (hi : mm.2.2.2 = some .boolean) (h01 : v = 0 ∨ v = 1) (hd : decode mm.2.1 pc = .ok (.ireturn, 1)) (hp : Po (some (.int v)) g) : gh_W l d z pc ls [.int v] g cb sb := by
  obtain ⟨p, e, R, s, m, args, below, meth, c, nL, Q⟩ := z
  obtain ⟨⟨hx, hb, hml, hown, hts⟩, hr, hlk, hK, hR, hnm⟩ := C
  have hQ : Q = _ := hQ
  subst hQ
  intro H locs la ce sl hG hlo hL i9 j9
  refine W.widen (k := R.cells) (n := R.slots) (by omega) (by omega) ?_
  exact W.zret (v := v) hx hb (hr.trans hi) (by rcases h01 with rfl | rfl <;> rfl) (fun t ht hW => ⟨_, g, rfl, hp, by rw [ht]; exact hG⟩) hlo hd
theorem gh_vret (C : gh_X d z mm rm) {Po : Option Value → gh_H → Prop} (hQ : gh_Q d z Po) (hi : mm.2.2.2 = none) (hd : decode mm.2.1 pc = .ok (.return_, 1)) (hp : Po (none) g) : gh_W l d z pc ls [] g cb sb := by
  obtain ⟨p, e, R, s, m, args, below, meth, c, nL, Q⟩ := z
  obtain ⟨⟨hx, hb, hml, hown, hts⟩, hr, hlk, hK, hR, hnm⟩ := C
  have hQ : Q = _ := hQ
  subst hQ
  intro H locs la ce sl hG hlo hL i9 j9
  refine W.widen (k := R.cells) (n := R.slots) (by omega) (by omega) ?_
  exact W.vret hx hb (hr.trans hi) (fun t ht hW => ⟨_, g, rfl, hp, by rw [ht]; exact hG⟩) hlo hd
theorem gh_aret (C : gh_X d z mm rm) {Po : Option Value → gh_H → Prop} (hQ : gh_Q d z Po) {v : Value} {rt : FieldType} (hi : mm.2.2.2 = some rt) (hrt : (∃ n, rt = .object n) ∨ ∃ t, rt = .array t) (hv : v = .null ∨ ∃ a, v = .ref a) (hd : decode mm.2.1 pc = .ok (.areturn, 1)) (hp : Po (some v) g) : gh_W l d z pc ls [v] g cb sb := by
  obtain ⟨p, e, R, s, m, args, below, meth, c, nL, Q⟩ := z
  obtain ⟨⟨hx, hb, hml, hown, hts⟩, hr, hlk, hK, hR, hnm⟩ := C
  have hQ : Q = _ := hQ
  subst hQ
  intro H locs la ce sl hG hlo hL i9 j9
  refine W.widen (k := R.cells) (n := R.slots) (by omega) (by omega) ?_
  exact W.aret (v := v) hx hb (hr.trans hi) hrt hv (fun t ht hW => ⟨_, g, rfl, hp, by rw [ht]; exact hG⟩) hlo hd
end GH
