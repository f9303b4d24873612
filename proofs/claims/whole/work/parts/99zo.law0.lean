/-! THE LAW'S OWN ROWS -/
abbrev lwM (nm : String) : gh_M := (⟨"RatchetGroupLaw", nm, "([I)Z"⟩, code, 7, ret)
def gh_SX (d : gh_D) (z : gh_Z) (b L : Nat) (xs : Nat → Int32) : Prop := match z with
  | (_, _, _, s, _, _, _, _, _, _, _) => va_X b L xs s d.2.2 ∧ b < d.2.2.size
section LWR
variable {l : Launch} {d : gh_D} {z : gh_Z} {mm : gh_M} {rm : Room} {pc : Nat} {ls : List (Option Value)} {rest : List Value} {g : gh_H} {cb sb : Nat}
theorem gh_sld (C : gh_X d z mm rm) {b L : Nat} {xs : Nat → Int32} (hX : gh_SX d z b L xs) {i : Int32} (hin : vp_in i L) (hd : decode mm.2.1 pc = .ok (.iaload, 1)) (kk : gh_W l d z (pc + 1) ls (.int (xs i.toNatClampNeg) :: rest) g cb sb) : gh_W l d z pc ls (.int i :: .ref b :: rest) g cb sb := by
  obtain ⟨p, e, R, s, m, args, below, meth, c, nL, Q⟩ := z
  obtain ⟨⟨hx, hb, hml, hown, hts⟩, hr, hlk, hK, hR, hnm⟩ := C
  obtain ⟨⟨scr, h1, h2, h3, h4, h5⟩, hbl⟩ := hX
  have hlt : i.toNatClampNeg < L := Nat.not_le.mp fun q => hin (Or.inr q)
  intro H locs la ce sl hG hlo hL i9 j9
  exact W.iald (v := .int (xs i.toNatClampNeg)) hx hb (by rw [hG.2.1 b hbl]; exact h1) h2 h3 (by rw [h4]; exact hin) (h5 _ hlt) rfl rfl hd (kk H locs la ce sl hG hlo hL i9 j9)
theorem gh_slen (C : gh_X d z mm rm) {b L : Nat} {xs : Nat → Int32} (hX : gh_SX d z b L xs) (hd : decode mm.2.1 pc = .ok (.arraylength, 1)) (kk : gh_W l d z (pc + 1) ls (.int (nI L) :: rest) g cb sb) : gh_W l d z pc ls (.ref b :: rest) g cb sb := by
  obtain ⟨p, e, R, s, m, args, below, meth, c, nL, Q⟩ := z
  obtain ⟨⟨hx, hb, hml, hown, hts⟩, hr, hlk, hK, hR, hnm⟩ := C
  obtain ⟨⟨scr, h1, h2, h3, h4, h5⟩, hbl⟩ := hX
  intro H locs la ce sl hG hlo hL i9 j9
  exact W.alen (n := nI L) hx hb (by rw [hG.2.1 b hbl]; exact h1) h2 (by rw [h4] <;> rfl) rfl rfl hd (kk H locs la ce sl hG hlo hL i9 j9)
theorem gh_lcmp (C : gh_X d z mm rm) {x y : Int64} (hd : decode mm.2.1 pc = .ok (.lcmp, 1)) (kk : gh_W l d z (pc + 1) ls (.int (lg_cmp x y) :: rest) g cb sb) : gh_W l d z pc ls (.long y :: .long x :: rest) g cb sb := by
  obtain ⟨p, e, R, s, m, args, below, meth, c, nL, Q⟩ := z
  obtain ⟨⟨hx, hb, hml, hown, hts⟩, hr, hlk, hK, hR, hnm⟩ := C
  intro H locs la ce sl hG hlo hL i9 j9
  exact W.lcmp hx hb hd (kk H locs la ce sl hG hlo hL i9 j9)
end LWR
theorem lcmp_s (x : Int64) : lg_cmp x x = 0 := by
  have h : ¬ x < x := by simp
  simp [lg_cmp, h]
theorem in_k {L i k : Nat} (h : i + k < L) (hL : L ≤ 2048) : vp_in (nI i + nI k) L := by
  have e : nI i + nI k = nI (i + k) := by
    apply tn_inj
    rw [tn_add, tn_nI (by omega), tn_nI (by omega), tn_nI (by omega)]; omega
  rw [e]
  unfold vp_in
  rw [nI_clamp (by omega)]
  rintro (q | q)
  · exact nI_pos (by omega) q
  · omega
theorem le_4 {L i : Nat} (hL : L ≤ 2048) (hi : i ≤ 2100) : nI L - 4 < nI i ↔ L < i + 4 := by
  by_cases h : 4 ≤ L
  · rw [show (4 : Int32) = nI 4 from rfl, nI_sub h (by omega), nI_ltI (by omega) (by omega)]; omega
  · have h0 : (0 : Int32) ≤ nI i := nI_pos' (by omega)
    refine ⟨fun _ => by omega, fun _ => ?_⟩
    have : L = 0 ∨ L = 1 ∨ L = 2 ∨ L = 3 := by omega
    have hneg : nI L - 4 < 0 := by rcases this with rfl | rfl | rfl | rfl <;> decide
    exact Std.lt_of_lt_of_le hneg h0
theorem and_31 (v : Int32) : ∃ t, t < 32 ∧ v &&& 31 = nI t := by
  refine ⟨tn v % 32, Nat.mod_lt _ (by decide), tn_inj ?_⟩
  rw [tn_and, show tn 31 = 31 by decide, tn_nI (by have := Nat.mod_lt (tn v) (show 32 > 0 by decide); omega)]
  exact Nat.and_two_pow_sub_one_eq_mod (tn v) 5
theorem CE.LI {ax ay ao : Nat} {g : gh_H} {S : SC} {k w : Int32} (h : CE ax ay ao g S k w) : LI ax ay ao g S := by
  obtain ⟨Z, y, R, f0, a, b, c, d, e, f, -⟩ := h
  exact ⟨Z, y, R, f0, a, b, c, d, e, f⟩
