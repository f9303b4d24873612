/-! rows of comfort over part 03 -/
theorem gh_kd {a b i j : Nat} (h : a ≠ b) : ((a, i) : gh_K) ≠ (b, j) := fun q => h (congrArg Prod.fst q)
theorem gh_kx {a i j : Nat} (h : i ≠ j) : ((a, i) : gh_K) ≠ (a, j) := fun q => h (congrArg Prod.snd q)
theorem gh_inc (j : Nat) : nI j + Int32.ofInt 1 = nI (j + 1) := nI_1 j
abbrev rr (n c s : Nat) : Room := { frames := n, cells := c, slots := s, locals := 40 * n }
theorem gh_uself {g : gh_H} {k : gh_K} {v : Nat × gh_E} (h : g k = some v) : gh_u g k v = g := by
  funext q
  by_cases e : q = k
  · subst e; rw [gh_us, h]
  · rw [gh_un e]
theorem gh_swap {g : gh_H} {k q : gh_K} {v w : Nat × gh_E} (h : k ≠ q) : gh_u (gh_u g k v) q w = gh_u (gh_u g q w) k v := by
  funext r
  by_cases e : r = k
  · subst e; rw [gh_us, gh_un h, gh_us]
  · by_cases e2 : r = q
    · subst e2; rw [gh_us, gh_un e, gh_us]
    · rw [gh_un e2, gh_un e, gh_un e, gh_un e2]
section GC
variable {l : Launch} {d : gh_D} {z : gh_Z} {mm : gh_M} {rm : Room} {pc : Nat} {ls : List (Option Value)} {rest : List Value} {g : gh_H} {cb sb : Nat}
theorem gh_ti {x : Int32} (y : Int32) (e : x = y) (k : gh_W l d z pc ls (.int y :: rest) g cb sb) : gh_W l d z pc ls (.int x :: rest) g cb sb := e ▸ k
theorem gh_tr {x : Option Nat} (y : Option Nat) (e : x = y) (k : gh_W l d z pc ls (va_rf y :: rest) g cb sb) : gh_W l d z pc ls (va_rf x :: rest) g cb sb := e ▸ k
theorem gh_tg {g1 : gh_H} (e : g = g1) (k : gh_W l d z pc ls rest g1 cb sb) : gh_W l d z pc ls rest g cb sb := e ▸ k
theorem gh_vin {i : Int32} {n : Nat} (j : Nat) (hi : i = nI j) (hj : j < n ∧ n < 2 ^ 31) : vp_in i n := by rw [hi]; exact vp_in_nI hj.1 hj.2
theorem gh_cl9 {i : Int32} {n : Nat} (j : Nat) (hi : i = nI j) (hj : j < n ∧ n < 2 ^ 31) : i.toNatClampNeg = j := by rw [hi]; exact nI_clamp (by omega)
theorem gh_ialdN (C : gh_X d z mm rm) {t a n : Nat} {K : gh_K} {f : Nat → Int32} {i : Int32} (j : Nat) (hg : g K = some (a, .inl (t, n, .inl f))) (ht : gh_ty[t]? = some .int) (hi : i = nI j) (hj : j < n ∧ n < 2 ^ 31) (hd : decode mm.2.1 pc = .ok (.iaload, 1)) (kk : gh_W l d z (pc + 1) ls (.int (f j) :: rest) g cb sb) : gh_W l d z pc ls (.int i :: .ref a :: rest) g cb sb :=
  gh_iald C hg ht (gh_vin j hi hj) hd (by rw [gh_cl9 j hi hj]; exact kk)
theorem gh_baldN (C : gh_X d z mm rm) {t a n : Nat} {K : gh_K} {f : Nat → Int32} {i : Int32} (j : Nat) (hg : g K = some (a, .inl (t, n, .inl f))) (ht : gh_ty[t]? = some .byte) (hi : i = nI j) (hj : j < n ∧ n < 2 ^ 31) (hd : decode mm.2.1 pc = .ok (.baload, 1)) (kk : gh_W l d z (pc + 1) ls (.int (f j) :: rest) g cb sb) : gh_W l d z pc ls (.int i :: .ref a :: rest) g cb sb :=
  gh_bald C hg ht (gh_vin j hi hj) hd (by rw [gh_cl9 j hi hj]; exact kk)
theorem gh_zaldN (C : gh_X d z mm rm) {t a n : Nat} {K : gh_K} {f : Nat → Int32} {i : Int32} (j : Nat) (hg : g K = some (a, .inl (t, n, .inl f))) (ht : gh_ty[t]? = some .boolean) (hi : i = nI j) (hj : j < n ∧ n < 2 ^ 31) (hd : decode mm.2.1 pc = .ok (.baload, 1)) (kk : gh_W l d z (pc + 1) ls (.int (f j) :: rest) g cb sb) : gh_W l d z pc ls (.int i :: .ref a :: rest) g cb sb :=
  gh_zald C hg ht (gh_vin j hi hj) hd (by rw [gh_cl9 j hi hj]; exact kk)
theorem gh_laldN (C : gh_X d z mm rm) {t a n : Nat} {K : gh_K} {f : Nat → Int64} {i : Int32} (j : Nat) (hg : g K = some (a, .inl (t, n, .inr (.inl f)))) (ht : gh_ty[t]? = some .long) (hi : i = nI j) (hj : j < n ∧ n < 2 ^ 31) (hd : decode mm.2.1 pc = .ok (.laload, 1)) (kk : gh_W l d z (pc + 1) ls (.long (f j) :: rest) g cb sb) : gh_W l d z pc ls (.int i :: .ref a :: rest) g cb sb :=
  gh_lald C hg ht (gh_vin j hi hj) hd (by rw [gh_cl9 j hi hj]; exact kk)
theorem gh_aaldN (C : gh_X d z mm rm) {t a n : Nat} {C1 : String} {K : gh_K} {f : Nat → Option Nat} {i : Int32} (j : Nat) (hg : g K = some (a, .inl (t, n, .inr (.inr (.inr (.inr f)))))) (ht : gh_ty[t]? = some (.object C1)) (hi : i = nI j) (hj : j < n ∧ n < 2 ^ 31) (hd : decode mm.2.1 pc = .ok (.aaload, 1)) (kk : gh_W l d z (pc + 1) ls (va_rf (f j) :: rest) g cb sb) : gh_W l d z pc ls (.int i :: .ref a :: rest) g cb sb :=
  gh_aald C hg ht (gh_vin j hi hj) hd (by rw [gh_cl9 j hi hj]; exact kk)
theorem gh_iastN (C : gh_X d z mm rm) {t a n : Nat} {K : gh_K} {f : Nat → Int32} {i x : Int32} (j : Nat) (hg : g K = some (a, .inl (t, n, .inl f))) (ht : gh_ty[t]? = some .int) (hi : i = nI j) (hj : j < n ∧ n < 2 ^ 31) (hd : decode mm.2.1 pc = .ok (.iastore, 1)) (kk : gh_W l d z (pc + 1) ls rest (gh_u g K (a, .inl (t, n, .inl (upd f j x)))) cb sb) : gh_W l d z pc ls (.int x :: .int i :: .ref a :: rest) g cb sb :=
  gh_iast C hg ht (gh_vin j hi hj) hd (by rw [gh_cl9 j hi hj]; exact kk)
theorem gh_bastN (C : gh_X d z mm rm) {t a n : Nat} {K : gh_K} {f : Nat → Int32} {i x : Int32} (j : Nat) (hg : g K = some (a, .inl (t, n, .inl f))) (ht : gh_ty[t]? = some .byte) (hi : i = nI j) (hj : j < n ∧ n < 2 ^ 31) (hd : decode mm.2.1 pc = .ok (.bastore, 1)) (kk : gh_W l d z (pc + 1) ls rest (gh_u g K (a, .inl (t, n, .inl (upd f j (vp_nar .byte x))))) cb sb) : gh_W l d z pc ls (.int x :: .int i :: .ref a :: rest) g cb sb :=
  gh_bast C hg ht (gh_vin j hi hj) hd (by rw [gh_cl9 j hi hj]; exact kk)
theorem gh_zastN (C : gh_X d z mm rm) {t a n : Nat} {K : gh_K} {f : Nat → Int32} {i x : Int32} (j : Nat) (hg : g K = some (a, .inl (t, n, .inl f))) (ht : gh_ty[t]? = some .boolean) (hi : i = nI j) (hj : j < n ∧ n < 2 ^ 31) (hd : decode mm.2.1 pc = .ok (.bastore, 1)) (kk : gh_W l d z (pc + 1) ls rest (gh_u g K (a, .inl (t, n, .inl (upd f j (vp_nar .boolean x))))) cb sb) : gh_W l d z pc ls (.int x :: .int i :: .ref a :: rest) g cb sb :=
  gh_zast C hg ht (gh_vin j hi hj) hd (by rw [gh_cl9 j hi hj]; exact kk)
theorem gh_lastN (C : gh_X d z mm rm) {t a n : Nat} {K : gh_K} {f : Nat → Int64} {i : Int32} {x : Int64} (j : Nat) (hg : g K = some (a, .inl (t, n, .inr (.inl f)))) (ht : gh_ty[t]? = some .long) (hi : i = nI j) (hj : j < n ∧ n < 2 ^ 31) (hd : decode mm.2.1 pc = .ok (.lastore, 1)) (kk : gh_W l d z (pc + 1) ls rest (gh_u g K (a, .inl (t, n, .inr (.inl (vp_updL f j x))))) cb sb) : gh_W l d z pc ls (.long x :: .int i :: .ref a :: rest) g cb sb :=
  gh_last C hg ht (gh_vin j hi hj) hd (by rw [gh_cl9 j hi hj]; exact kk)
theorem gh_aastN (C : gh_X d z mm rm) {t a n ci v : Nat} {K Kv : gh_K} {r : vw_C} {fs : List Value} {f : Nat → Option Nat} {i : Int32} (j : Nat) (hg : g K = some (a, .inl (t, n, .inr (.inr (.inr (.inr f)))))) (ht : gh_ty[t]? = some (.object r.1)) (hgv : g Kv = some (v, .inr (ci, fs))) (hc : gh_cl[ci]? = some r) (hi : i = nI j) (hj : j < n ∧ n < 2 ^ 31) (hd : decode mm.2.1 pc = .ok (.aastore, 1)) (kk : gh_W l d z (pc + 1) ls rest (gh_u g K (a, .inl (t, n, .inr (.inr (.inr (.inr (va_up f j (some v)))))))) cb sb) : gh_W l d z pc ls (.ref v :: .int i :: .ref a :: rest) g cb sb :=
  gh_aast C hg ht hgv hc (gh_vin j hi hj) hd (by rw [gh_cl9 j hi hj]; exact kk)
theorem gh_putL (C : gh_X d z mm rm) {index ci k a : Nat} {ty : FieldType} {fin : Bool} {K : gh_K} {fs : List Value} {v : Value} (fs1 : List Value) (hF : gh_FP mm.1.cls index ci k ty fin) (hfi : fin = true → mm.1.name = "<init>") (hg : g K = some (a, .inr (ci, fs))) (hs : fs.set k v = fs1) (hv : k < fs.length) (hn : narrow ty v = v) (hft : fits ty v = true) (hd : decode mm.2.1 pc = .ok (.putfield index, 3)) (kk : gh_W l d z (pc + 3) ls rest (gh_u g K (a, .inr (ci, fs1))) cb sb) : gh_W l d z pc ls (v :: .ref a :: rest) g cb sb :=
  gh_put C hF hfi hg hv hn hft hd (hs ▸ kk)
end GC
