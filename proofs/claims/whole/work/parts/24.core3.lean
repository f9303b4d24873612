/-! more rows: unsigned shift, wide constants, references that may be null, new arrays, copies and clones, keys that move -/
section GD
variable {l : Launch} {d : gh_D} {z : gh_Z} {mm : gh_M} {rm : Room} {pc : Nat} {ls : List (Option Value)} {rest : List Value} {g : gh_H} {cb sb : Nat}
theorem gh_iushr (C : gh_X d z mm rm) {x y : Int32} (hd : decode mm.2.1 pc = .ok (.iushr, 1)) (k : gh_W l d z (pc + 1) ls (.int (x.toUInt32 >>> (y.toUInt32 &&& Int32.toUInt32 31)).toInt32 :: rest) g cb sb) : gh_W l d z pc ls (.int y :: .int x :: rest) g cb sb := by
  obtain ⟨p, e, R, s, m, args, below, meth, c, nL, Q⟩ := z
  exact fun H locs la ce sl a b h i j => lv_iushr C.1.1 C.1.2.1 hd rfl (k H locs la ce sl a b h i j)
theorem gh_ldcw (C : gh_X d z mm rm) {index : Nat} {v : Int32} (hw : Cond.constant mm.1.cls index v ∈ gh_T) (hd : decode mm.2.1 pc = .ok (.ldc_w index, 3)) (k : gh_W l d z (pc + 3) ls (.int v :: rest) g cb sb) : gh_W l d z pc ls rest g cb sb := by
  obtain ⟨p, e, R, s, m, args, below, meth, c, nL, Q⟩ := z
  exact fun H locs la ce sl a b h i j => lv_ldcw C.1.1 C.1.2.1 C.1.2.2.2.1 (C.1.2.2.2.2 _ hw) hd (k H locs la ce sl a b h i j)
theorem gh_newaI (C : gh_X d z mm rm) {n : Int32} (K : gh_K) (N : Nat) (hn : n = nI N ∧ N ≤ 1000000) (cb1 sb1 : Nat) (h1 : cb1 + 1 ≤ cb) (h2 : sb1 + N ≤ sb) (hd : decode mm.2.1 pc = .ok (.newarray .int, 2)) (kk : ∀ a : Nat, (∀ (k : gh_K) (b : Nat) (x : gh_E), g k = some (b, x) → b ≠ a) → gh_W l d z (pc + 2) ls (.ref a :: rest) (gh_u g K (a, .inl (0, N, .inl (fun _ => 0)))) cb1 sb1) : gh_W l d z pc ls (.int n :: rest) g cb sb := by
  obtain ⟨rfl, hN⟩ := hn
  exact gh_newa C (t := 0) (ty := .int) (N := N) (q0 := (N, .inl (fun _ => 0))) K rfl rfl ac_0 (fun C1 h => by cases h) (fun cA => rfl) (nI_pos (by omega)) (nI_clamp (by omega)) (by show N * 4 ≤ _; omega) cb1 sb1 h1 h2 hd kk
theorem gh_newaB (C : gh_X d z mm rm) {n : Int32} (K : gh_K) (N : Nat) (hn : n = nI N ∧ N ≤ 1000000) (cb1 sb1 : Nat) (h1 : cb1 + 1 ≤ cb) (h2 : sb1 + N ≤ sb) (hd : decode mm.2.1 pc = .ok (.newarray .byte, 2)) (kk : ∀ a : Nat, (∀ (k : gh_K) (b : Nat) (x : gh_E), g k = some (b, x) → b ≠ a) → gh_W l d z (pc + 2) ls (.ref a :: rest) (gh_u g K (a, .inl (1, N, .inl (fun _ => 0)))) cb1 sb1) : gh_W l d z pc ls (.int n :: rest) g cb sb := by
  obtain ⟨rfl, hN⟩ := hn
  exact gh_newa C (t := 1) (ty := .byte) (N := N) (q0 := (N, .inl (fun _ => 0))) K rfl rfl ac_1 (fun C1 h => by cases h) (fun cA => rfl) (nI_pos (by omega)) (nI_clamp (by omega)) (by show N * 1 ≤ _; omega) cb1 sb1 h1 h2 hd kk
theorem gh_newaZ (C : gh_X d z mm rm) {n : Int32} (K : gh_K) (N : Nat) (hn : n = nI N ∧ N ≤ 1000000) (cb1 sb1 : Nat) (h1 : cb1 + 1 ≤ cb) (h2 : sb1 + N ≤ sb) (hd : decode mm.2.1 pc = .ok (.newarray .boolean, 2)) (kk : ∀ a : Nat, (∀ (k : gh_K) (b : Nat) (x : gh_E), g k = some (b, x) → b ≠ a) → gh_W l d z (pc + 2) ls (.ref a :: rest) (gh_u g K (a, .inl (2, N, .inl (fun _ => 0)))) cb1 sb1) : gh_W l d z pc ls (.int n :: rest) g cb sb := by
  obtain ⟨rfl, hN⟩ := hn
  exact gh_newa C (t := 2) (ty := .boolean) (N := N) (q0 := (N, .inl (fun _ => 0))) K rfl rfl ac_2 (fun C1 h => by cases h) (fun cA => rfl) (nI_pos (by omega)) (nI_clamp (by omega)) (by show N * 1 ≤ _; omega) cb1 sb1 h1 h2 hd kk
theorem gh_newaL (C : gh_X d z mm rm) {n : Int32} (K : gh_K) (N : Nat) (hn : n = nI N ∧ N ≤ 1000000) (cb1 sb1 : Nat) (h1 : cb1 + 1 ≤ cb) (h2 : sb1 + N ≤ sb) (hd : decode mm.2.1 pc = .ok (.newarray .long, 2)) (kk : ∀ a : Nat, (∀ (k : gh_K) (b : Nat) (x : gh_E), g k = some (b, x) → b ≠ a) → gh_W l d z (pc + 2) ls (.ref a :: rest) (gh_u g K (a, .inl (3, N, .inr (.inl (fun _ => 0))))) cb1 sb1) : gh_W l d z pc ls (.int n :: rest) g cb sb := by
  obtain ⟨rfl, hN⟩ := hn
  exact gh_newa C (t := 3) (ty := .long) (N := N) (q0 := (N, .inr (.inl (fun _ => 0)))) K rfl rfl ac_3 (fun C1 h => by cases h) (fun cA => rfl) (nI_pos (by omega)) (nI_clamp (by omega)) (by show N * 8 ≤ _; omega) cb1 sb1 h1 h2 hd kk
/-- keys may move: what g1 holds, g holds under some key, two keys of g1 never one cell -/
theorem gh_R.re {H : Heap} {g1 : gh_H} (h : gh_R d g H) (hk : ∀ (k : gh_K) (v : Nat × gh_E), g1 k = some v → ∃ q : gh_K, g q = some v) (hi : ∀ (k1 k2 : gh_K) (v1 v2 : Nat × gh_E), g1 k1 = some v1 → g1 k2 = some v2 → v1.1 = v2.1 → k1 = k2) : gh_R d g1 H :=
  ⟨h.1, h.2.1, fun k a x hx => by
    obtain ⟨q, hq⟩ := hk k _ hx
    exact h.2.2.1 q a x hq, fun k1 k2 a x1 x2 e1 e2 => hi k1 k2 _ _ e1 e2 rfl⟩
theorem gh_re (g1 : gh_H) (hk : ∀ (k : gh_K) (v : Nat × gh_E), g1 k = some v → ∃ q : gh_K, g q = some v) (hi : ∀ (k1 k2 : gh_K) (v1 v2 : Nat × gh_E), g1 k1 = some v1 → g1 k2 = some v2 → v1.1 = v2.1 → k1 = k2) (k : gh_W l d z pc ls rest g1 cb sb) : gh_W l d z pc ls rest g cb sb := by
  obtain ⟨p, e, R, s, m, args, below, meth, c, nL, Q⟩ := z
  exact fun H locs la ce sl a b h i j => k H locs la ce sl (a.re hk hi) b h i j
/-- the cell of key q goes over to key k, whose old cell is forgotten; q is free -/
def gh_mv (g : gh_H) (q k : gh_K) : gh_H := fun r => if r = k then g q else if r = q then none else g r
theorem gh_mv_k {q k : gh_K} : gh_mv g q k k = g q := if_pos rfl
theorem gh_mv_o {q k r : gh_K} (h1 : r ≠ k) (h2 : r ≠ q) : gh_mv g q k r = g r := by unfold gh_mv; rw [if_neg h1, if_neg h2]
theorem gh_move (C : gh_X d z mm rm) (q k : gh_K) (kk : gh_W l d z pc ls rest (gh_mv g q k) cb sb) : gh_W l d z pc ls rest g cb sb := by
  obtain ⟨p, e, R, s, m, args, below, meth, c, nL, Q⟩ := z
  intro H locs la ce sl a b h i j
  refine kk H locs la ce sl (a.re (fun k1 v1 h1 => ?_) (fun k1 k2 v1 v2 h1 h2 he => ?_)) b h i j
  · unfold gh_mv at h1
    split at h1
    · exact ⟨q, h1⟩
    · split at h1
      · cases h1
      · exact ⟨k1, h1⟩
  · obtain ⟨a1, x1⟩ := v1
    obtain ⟨a2, x2⟩ := v2
    have he : a1 = a2 := he
    subst he
    unfold gh_mv at h1 h2
    split at h1
    · rename_i e1
      split at h2
      · rename_i e2
        rw [e1, e2]
      · rename_i e2
        split at h2
        · cases h2
        · rename_i e3
          exact absurd (a.2.2.2 q k2 a1 x1 x2 h1 h2) (fun e => e3 e.symm)
    · rename_i e1
      split at h1
      · cases h1
      · rename_i e3
        split at h2
        · exact absurd (a.2.2.2 k1 q a1 x1 x2 h1 h2) e3
        · rename_i e4
          split at h2
          · cases h2
          · exact a.2.2.2 k1 k2 a1 x1 x2 h1 h2
end GD
/-! frames by kinds of keys -/
def fr (P : Nat → Bool) (g g1 : gh_H) : Prop := ∀ k : gh_K, P k.1 = false → g1 k = g k
theorem fr.rf {P : Nat → Bool} {g : gh_H} : fr P g g := fun _ _ => rfl
theorem fr.u {P : Nat → Bool} {g g1 : gh_H} {k : gh_K} {v : Nat × gh_E} (h : fr P g g1) (hk : P k.1 = true) : fr P g (gh_u g1 k v) := fun q hq => by
  rw [gh_un (fun e => by rw [e, hk] at hq; cases hq)]; exact h q hq
theorem fr.mv {P : Nat → Bool} {g g1 : gh_H} {q k : gh_K} (h : fr P g g1) (hq : P q.1 = true) (hk : P k.1 = true) : fr P g (gh_mv g1 q k) := fun r hr => by
  rw [gh_mv_o (fun e => by rw [e, hk] at hr; cases hr) (fun e => by rw [e, hq] at hr; cases hr)]; exact h r hr
theorem fr.trans {P : Nat → Bool} {g g1 g2 : gh_H} (h : fr P g g1) (h2 : fr P g1 g2) : fr P g g2 := fun k hk => (h2 k hk).trans (h k hk)
theorem fr.weak {P P1 : Nat → Bool} {g g1 : gh_H} (h : fr P g g1) (hP : ∀ k, P1 k = false → P k = false) : fr P1 g g1 := fun k hk => h k (hP _ hk)
theorem fr.at {P : Nat → Bool} {g g1 : gh_H} (h : fr P g g1) {k : gh_K} {v : Nat × gh_E} (hk : P k.1 = false) (hg : g k = some v) : g1 k = some v := (h k hk).trans hg
