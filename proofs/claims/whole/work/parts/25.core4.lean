/-! System.arraycopy and clone of an array -/
section GE
variable {l : Launch} {d : gh_D} {z : gh_Z} {mm : gh_M} {rm : Room} {pc : Nat} {ls : List (Option Value)} {rest : List Value} {g : gh_H} {cb sb : Nat}
theorem gh_nn (x : Int32) (h : ¬ x < 0) : x.toInt = (x.toNatClampNeg : Int) := by
  have h0 : (0 : Int) ≤ x.toInt := by simpa using Int32.le_iff_toInt_le.mp (Int32.not_lt.mp h)
  show x.toInt = ((x.toInt.toNat : Nat) : Int)
  omega
theorem gh_copy (C : gh_X d z mm rm) {index t a0 a n0 n1 : Nat} {K0 K1 : gh_K} {f f1 : Nat → Int32} {ty : FieldType} {sp dp n : Int32} (hl : Cond.methodLink mm.1.cls index arraycopyName ∈ gh_T) (hna : Cond.native arraycopyName ∈ gh_T) (hst : Cond.static arraycopyName ∈ gh_T) (hin : Cond.initialized "java/lang/System" ∈ gh_T)
    (hg0 : g K0 = some (a0, .inl (t, n0, .inl f))) (hg1 : g K1 = some (a, .inl (t, n1, .inl f1))) (ht : gh_ty[t]? = some ty) (hprim : refKind ty = false) (h1 : ¬ sp < 0) (h2 : ¬ dp < 0) (h3 : ¬ n < 0) (h4 : sp.toNatClampNeg + n.toNatClampNeg ≤ n0) (h5 : dp.toNatClampNeg + n.toNatClampNeg ≤ n1) (hfit : ∀ i, i < n.toNatClampNeg → fits ty (.int (f (sp.toNatClampNeg + i))) = true)
    (hf : 1 ≤ rm.frames ∧ 8 + (nativeFrameWords "java/lang/System" "arraycopy" 5 + 11) ≤ rm.locals) (hcat : (rest.map fun v => v.category).sum ≤ 8) (hd : decode mm.2.1 pc = .ok (.invokestatic index, 3))
    (kk : gh_W l d z (pc + 3) ls rest (gh_u g K1 (a, .inl (t, n1, .inl (va_cpy f f1 sp.toNatClampNeg dp.toNatClampNeg n.toNatClampNeg)))) cb sb) : gh_W l d z pc ls (.int n :: .int dp :: .ref a :: .int sp :: .ref a0 :: rest) g cb sb := by
  obtain ⟨p, e, R, s, m, args, below, meth, c, nL, Q⟩ := z
  obtain ⟨⟨hx, hb, hml, hown, hts⟩, hr, hlk, hK, hR, hnm⟩ := C
  subst hR
  intro H locs la ce sl hG hlo hL i9 j9 T hT X
  obtain ⟨hat0, -⟩ := hG.2.2.1 K0 a0 _ hg0
  obtain ⟨hat1, hla⟩ := hG.2.2.1 K1 a _ hg1
  have hc0 : H[a0]? = some (vp_cell (d.2.1 t) (n0, .inl f)) := hat0
  have hc1 : H[a]? = some (vp_cell (d.2.1 t) (n1, .inl f1)) := hat1
  obtain ⟨-, k0, hk0, cm0, hkk0⟩ := (hK.2.1 t _ ht).1 n0 (fun j => .int (f j))
  obtain ⟨-, k1, hk1, cm1, hkk1⟩ := (hK.2.1 t _ ht).1 n1 (fun j => .int (f1 j))
  obtain ⟨vm', X', step⟩ := X.arraycopy hx hown (hts _ hl) (hts _ hna) (hts _ hst) (hts _ hin) (src := a0) (dst := a) (cs := vp_cell (d.2.1 t) (n0, .inl f)) (cd := vp_cell (d.2.1 t) (n1, .inl f1)) (srcPos := sp) (destPos := dp) (n := n) (by rw [hT]; exact hc0) (by rw [hT]; exact hc1)
    (fun _ h => by cases h) (fun _ h => by cases h) (fun h => by cases h) (fun h => by cases h) hk0 hk1 hkk0 hkk1 (by simp [hprim]) h1 h2 h3
    (by rw [gh_nn sp h1, gh_nn n h3]; show ¬ _ > ((arrV (d.2.1 t) n0 (fun j => .int (f j))).slots.size : Int); rw [arrV_size]; omega)
    (by rw [gh_nn dp h2, gh_nn n h3]; show ¬ _ > ((arrV (d.2.1 t) n1 (fun j => .int (f1 j))).slots.size : Int); rw [arrV_size]; omega)
    (fun vm₁ _ i hi => by
      have e : (vp_cell (d.2.1 t) (n0, .inl f)).slots.getD (sp.toNatClampNeg + i) .null = .int (f (sp.toNatClampNeg + i)) := by
        show (arrV (d.2.1 t) n0 (fun j => .int (f j))).slots.getD _ _ = _
        rw [Array.getD_eq_getD_getElem?, arrV_read _ _ (by omega)]
        rfl
      refine ⟨?_, ?_⟩
      · rw [e]; exact hfit i hi
      · rw [e]; exact trivial)
    (g := F0 m pc la (.int n :: .int dp :: .ref a :: .int sp :: .ref a0 :: rest)) rfl (hL.1.trans hml.symm) (rest := rest) rfl (by rw [hb]; exact hd) hf.1 (by show 2 * 0 + _ + _ ≤ _; omega)
  have e1 : copied (vp_cell (d.2.1 t) (n0, .inl f)) (vp_cell (d.2.1 t) (n1, .inl f1)) sp dp n = vp_cell (d.2.1 t) (n1, .inl (va_cpy f f1 sp.toNatClampNeg dp.toNatClampNeg n.toNatClampNeg)) := va_copied (fun z => .int z) (d.2.1 t) (d.2.1 t) f f1 h4
  rw [e1] at X' step
  have hl9 : a < H.size := (Array.getElem?_eq_some_iff.mp hc1).1
  have hheap : ((T.setVm vm').setCell a (vp_cell (d.2.1 t) (n1, .inl (va_cpy f f1 sp.toNatClampNeg dp.toNatClampNeg n.toNatClampNeg)))).heap = H.setIfInBounds a (vp_cell (d.2.1 t) (n1, .inl (va_cpy f f1 sp.toNatClampNeg dp.toNatClampNeg n.toNatClampNeg))) := by rw [← hT]; rfl
  obtain ⟨t9, a1, b1⟩ := kk _ _ la ce sl (hG.put (H1 := H.setIfInBounds a (vp_cell (d.2.1 t) (n1, .inl (va_cpy f f1 sp.toNatClampNeg dp.toNatClampNeg n.toNatClampNeg)))) hg1 (by simp) (fun q hq => by simp [Array.getElem?_setIfInBounds, Ne.symm hq]) (show (H.setIfInBounds a _)[a]? = some _ by simp [Array.getElem?_setIfInBounds, hl9])) (fun q hq => by
      rcases List.mem_append.mp hq with h | h
      · exact hlo q h
      · obtain ⟨y, -, hy⟩ := List.mem_map.mp h
        rw [← hy]
        exact hla) hL i9 j9 _ hheap X'
  exact ⟨t9, step t9 a1, b1⟩
theorem gh_clone (C : gh_X d z mm rm) {index t a : Nat} {K : gh_K} {x : vp_A} {ty : FieldType} {ad : String} (K1 : gh_K) (hl : Cond.methodLink mm.1.cls index ⟨ad, "clone", "()Ljava/lang/Object;"⟩ ∈ gh_T) (hsame : Cond.sameMethod ad "java/lang/Object" "clone" "()Ljava/lang/Object;" ∈ gh_T) (hna : Cond.native ⟨"java/lang/Object", "clone", "()Ljava/lang/Object;"⟩ ∈ gh_T) (hinst : Cond.instanceMethod ⟨"java/lang/Object", "clone", "()Ljava/lang/Object;"⟩ ∈ gh_T)
    (hsel : Cond.selects ad ⟨ad, "clone", "()Ljava/lang/Object;"⟩ ⟨"java/lang/Object", "clone", "()Ljava/lang/Object;"⟩ ∈ gh_T) (hcl : Cond.castable ad "java/lang/Cloneable" ∈ gh_nw) (hg : g K = some (a, .inl (t, x))) (ht : gh_ty[t]? = some ty) (hp : ∀ C1 : String, ty ≠ .object C1) (had : "[" ++ ty.toString = ad) (hfit : ∀ (cA : ClassId) (i : Nat) (v : Value), (vp_cell cA x).slots[i]? = some v → fits ty v = true)
    (hf : 1 ≤ rm.frames ∧ 22 ≤ rm.locals) (hcat : (rest.map fun v => v.category).sum ≤ 8) (cb1 sb1 : Nat) (h1 : cb1 + 1 ≤ cb) (h2 : sb1 + x.1 ≤ sb) (hd : decode mm.2.1 pc = .ok (.invokevirtual index, 3))
    (kk : ∀ q : Nat, (∀ (k : gh_K) (b : Nat) (y : gh_E), g k = some (b, y) → b ≠ q) → gh_W l d z (pc + 3) ls (.ref q :: rest) (gh_u g K1 (q, .inl (t, x))) cb1 sb1) : gh_W l d z pc ls (.ref a :: rest) g cb sb := by
  obtain ⟨p, e, R, s, m, args, below, meth, c, nL, Q⟩ := z
  obtain ⟨⟨hx, hb, hml, hown, hts⟩, hr, hlk, hK, hR, hnm⟩ := C
  subst hR
  intro H locs la ce sl hG hlo hL i9 j9 T hT X
  have hsz : (vp_cell (d.2.1 t) x).slots.size = x.1 := by
    obtain ⟨n, f | f | f | f | f⟩ := x <;> exact arrV_size _ _ _
  have hvm0 : (vp_cell (d.2.1 t) x).vm = .none := by
    obtain ⟨n, f | f | f | f | f⟩ := x <;> rfl
  have hcl0 : (vp_cell (d.2.1 t) x).cls = d.2.1 t := by
    obtain ⟨n, f | f | f | f | f⟩ := x <;> rfl
  have hcellE : ({ cls := (vp_cell (d.2.1 t) x).cls, slots := (vp_cell (d.2.1 t) x).slots } : Cell) = vp_cell (d.2.1 t) x := by
    obtain ⟨n, f | f | f | f | f⟩ := x <;> rfl
  have hname : s.vm.findClass ad = some (d.2.1 t) := by
    have h9 := (hK.2.1 t _ ht).2
    rw [← had]
    cases ty with
    | object C1 => exact absurd rfl (hp C1)
    | _ => exact h9
  obtain ⟨c0, t0', f1, f2, f3⟩ := Cond.castable_spec (va_Nw.use (A := args) rfl (hK.2.2 _ hcl))
  cases hname.symm.trans f1
  obtain ⟨hat, -⟩ := hG.2.2.1 K a _ hg
  have hcellT : T.heap[a]? = some (vp_cell (d.2.1 t) x) := by rw [hT]; exact hat
  obtain ⟨-, kA, hkA, comp, hkind⟩ := State.isArrayOf_alike X.warmed.alike ((hK.2.1 t _ ht).1 0 (fun _ => .null))
  obtain ⟨-, kS, hkS, compS, hkindS⟩ := (hK.2.1 t _ ht).1 0 (fun _ => .null)
  obtain ⟨vm', X', st⟩ := X.cloneArray hx hown (hts _ hl) (hts _ hsame) (hts _ hna) (hts _ hinst) (hts _ hsel) (a := a) (cell := vp_cell (d.2.1 t) x) hcellT (fun k h => by rw [hvm0] at h; cases h) (by rw [hvm0]; exact fun h => by cases h) (by rw [hcl0]; exact hname) f2 (by rw [hcl0]; exact f3)
    (fun i v hv => by
      rw [hcl0]
      have hk' : T.vm.classes[d.2.1 t]? = some kA := hkA
      simpa [State.fitsSlot, State.slotType?, hk', hkind] using hfit _ i v hv)
    (g := F0 m pc la (.ref a :: rest)) rfl (hL.1.trans hml.symm) rfl (by rw [hb]; exact hd) hf.1 (by show 2 * 0 + _ + 14 ≤ _; omega) (by omega) (by rw [hsz]; omega) (hloader := by rw [hcl0]; exact Vm.clonesLoader_of_array hkS hkindS)
  rw [hcellE, hsz] at X'
  generalize hH1 : H.push (vp_cell (d.2.1 t) x) = H1
  have z1 : H1.size = H.size + 1 := by rw [← hH1, Array.size_push]
  have e1 : H1[H.size]? = some (vp_cell (d.2.1 t) x) := by rw [← hH1, Array.getElem?_push_size]
  have o1 : ∀ q : Nat, q < H.size → H1[q]? = H[q]? := fun q hq => by rw [← hH1, Array.getElem?_push, if_neg (Nat.ne_of_lt hq)]
  obtain ⟨t9, b1, b2⟩ := kk H.size (fun k b y hk => Nat.ne_of_lt (hG.2.2.1 k b y hk).1.lt) H1 locs la (ce + 1) (sl + x.1) (hG.push z1 o1 e1) hlo hL (by omega) (by omega) ((T.setVm vm').pushCell (vp_cell (d.2.1 t) x)) (by rw [← hH1, ← hT]; rfl) X'
  refine ⟨t9, st t9 ?_, b2⟩
  rw [hcellE, hT]
  exact b1
theorem gh_castA (C : gh_X d z mm rm) {index t a : Nat} {K : gh_K} {x : vp_A} {ty : FieldType} {ad : String} (hl : Cond.classLink mm.1.cls index ad ∈ gh_T) (hg : g K = some (a, .inl (t, x))) (ht : gh_ty[t]? = some ty) (hp : ∀ C1 : String, ty ≠ .object C1) (had : "[" ++ ty.toString = ad) (hd : decode mm.2.1 pc = .ok (.checkcast index, 3)) (kk : gh_W l d z (pc + 3) ls (.ref a :: rest) g cb sb) : gh_W l d z pc ls (.ref a :: rest) g cb sb := by
  obtain ⟨p, e, R, s, m, args, below, meth, c, nL, Q⟩ := z
  obtain ⟨⟨hx, hb, hml, hown, hts⟩, hr, hlk, hK, hR, hnm⟩ := C
  have hname : s.vm.findClass ad = some (d.2.1 t) := by
    have h9 := (hK.2.1 t _ ht).2
    rw [← had]
    cases ty with
    | object C1 => exact absurd rfl (hp C1)
    | _ => exact h9
  exact fun H locs la ce sl hG hlo hL i j => va_castA hx hb hown (hts _ hl) (hG.at hg) 0 rfl hname hd (kk H locs la ce sl hG hlo hL i j)
theorem xM_l : Cond.code Lib.Math.min.name Lib.Math.min.code 2 (some .int) ∈ gh_T := gh_in 239 (by decide +kernel) rfl
theorem xM_s : Cond.static Lib.Math.min.name ∈ gh_T := gh_in 238 (by decide +kernel) rfl
theorem xM_i : Cond.initialized "java/lang/Math" ∈ gh_T := gh_in 67 (by decide +kernel) rfl
theorem xX_l : Cond.code Lib.Math.max.name Lib.Math.max.code 2 (some .int) ∈ gh_T := gh_in 702 (by decide +kernel) rfl
theorem xX_s : Cond.static Lib.Math.max.name ∈ gh_T := gh_in 701 (by decide +kernel) rfl
theorem gh_min (C : gh_X d z mm rm) {index : Nat} (x y : Nat) (hxy : x ≤ y) (hy : y < 2 ^ 31) (hl : Cond.methodLink mm.1.cls index Lib.Math.min.name ∈ gh_T) (hf : 1 ≤ rm.frames ∧ 21 ≤ rm.locals) (hcat : (rest.map fun v => v.category).sum ≤ 8) (hd : decode mm.2.1 pc = .ok (.invokestatic index, 3)) (kk : gh_W l d z (pc + 3) ls (.int (nI x) :: rest) g cb sb) : gh_W l d z pc ls (.int (nI y) :: .int (nI x) :: rest) g cb sb := by
  obtain ⟨p, e, R, s, m, args, below, meth, c, nL, Q⟩ := z
  obtain ⟨⟨hx, hb, hml, hown, hts⟩, hr, hlk, hK, hR, hnm⟩ := C
  subst hR
  intro H locs la ce sl hG hlo hL i j
  refine va_mmin hx hb (hml.trans hL.1.symm) hown (hts _ hl) (hts _ xM_s) (hts _ xM_i) (hts _ xM_l) hf.1 (by omega) (by omega) (by omega) hd ?_
  have e : (if nI y < nI x then nI y else nI x) = nI x := if_neg (nI_nlt hxy hy)
  first | (rw [e]; exact kk H locs la ce sl hG hlo hL i j) | (rw [show (if nI x < nI y then nI x else nI y) = nI x from by by_cases h : nI x < nI y; · rw [if_pos h]; · rw [if_neg h]; exact ((nI_eq (by omega) hy).mpr (Nat.le_antisymm hxy (Nat.not_lt.mp (fun q => h (nI_lt q hy))))).symm]; exact kk H locs la ce sl hG hlo hL i j)
theorem gh_max (C : gh_X d z mm rm) {index : Nat} (x y : Nat) (hxy : y ≤ x) (hx9 : x < 2 ^ 31) (hl : Cond.methodLink mm.1.cls index Lib.Math.max.name ∈ gh_T) (hf : 1 ≤ rm.frames ∧ 21 ≤ rm.locals) (hcat : (rest.map fun v => v.category).sum ≤ 8) (hd : decode mm.2.1 pc = .ok (.invokestatic index, 3)) (kk : gh_W l d z (pc + 3) ls (.int (nI x) :: rest) g cb sb) : gh_W l d z pc ls (.int (nI y) :: .int (nI x) :: rest) g cb sb := by
  obtain ⟨p, e, R, s, m, args, below, meth, c, nL, Q⟩ := z
  obtain ⟨⟨hx, hb, hml, hown, hts⟩, hr, hlk, hK, hR, hnm⟩ := C
  subst hR
  intro H locs la ce sl hG hlo hL i j
  refine va_mmax hx hb (hml.trans hL.1.symm) hown (hts _ hl) (hts _ xX_s) (hts _ xM_i) (hts _ xX_l) hf.1 (by omega) (by omega) (by omega) hd ?_
  rw [show (if nI x < nI y then nI y else nI x) = nI x from if_neg (nI_nlt hxy hx9)]
  exact kk H locs la ce sl hG hlo hL i j
end GE
