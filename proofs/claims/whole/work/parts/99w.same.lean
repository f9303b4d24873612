/-! calls that leave the trees as they are -/
theorem j_fr {S T : SC} {R W : SR} (h : J S R) (hE : W.1 12 = R.1 12) (hf : ∀ f, 13 ≤ f → f ≤ 26 → f ≠ 25 → W.2 f = R.2 f) (hS1 : T.1 2 = S.1 2) (hS2 : ∀ c, 2 ≤ c → T.2.2 c = S.2.2 c) (hS3 : ∀ c, (4 ≤ c ∧ c ≤ 10) ∨ c = 20 → T.2.1 c = S.2.1 c) (hN : R.1 1 ≤ W.1 1) (hx : enx R W) : jX T W ∧ jT T W ∧ jH W := by
  obtain ⟨-, -, hX, ⟨hT, hO⟩, -, -, -, -, -, -, hH, -⟩ := h
  have kK : ∀ e v, rK W e v = rK R e v := fun e v => by simp only [rK]; rw [hf 22 (by decide) (by decide) (by decide)]
  have kU : ∀ e v, rU W e v = rU R e v := fun e v => by simp only [rU]; rw [hf 23 (by decide) (by decide) (by decide)]
  have ko : ∀ e l, ow W e l = ow R e l := fun e l => by simp only [ow]; rw [hf 26 (by decide) (by decide) (by decide)]
  refine ⟨fun e he => ?_, ⟨fun e he => ?_, fun l hl => ?_⟩, fun e D h1 h2 h13 hD => ?_⟩
  · rw [hE] at he
    obtain ⟨g, s, s1, s2⟩ := hX e he
    rw [hS3 4 (by omega), hS3 5 (by omega), hS3 6 (by omega), hS3 7 (by omega), hS3 8 (by omega), hS3 9 (by omega), hS3 10 (by omega), hf 14 (by decide) (by decide) (by decide), hf 15 (by decide) (by decide) (by decide), hf 16 (by decide) (by decide) (by decide), hf 17 (by decide) (by decide) (by decide), hf 18 (by decide) (by decide) (by decide), hf 19 (by decide) (by decide) (by decide), hf 20 (by decide) (by decide) (by decide)]
    exact ⟨g, s, by omega, s2⟩
  · rw [hE] at he
    obtain ⟨D, hD⟩ := hT e he
    exact ⟨D, jT1_c hD (by rw [hS1]) (fun c hc => by rw [hS2 c hc]) (by rw [hf 13 (by decide) (by decide) (by decide)]) (fun v _ => ⟨kK e v, kU e v, by rw [hf 24 (by decide) (by decide) (by decide)]⟩) (fun l _ => ko e l) hN⟩
  · rw [hE, hS3 20 (by omega), ko]; exact hO l hl
  · rw [hE] at h2
    rw [hf 13 (by decide) (by decide) (by decide)] at h13
    exact jH1_c (hH e D h1 h2 h13 hD) hD (fun v _ => ⟨kK e v, kU e v⟩) (fun v _ => ⟨kK _ v, kU _ v⟩) (fun l _ => ⟨ko e l, ko _ l⟩) (fun f hf9 => by rw [hf f (by omega) (by omega) (by omega)]) hx
/-- nothing new follows -/
theorem jC_same {S T : SC} {R W : SR} (h : J S R) (hok : okC S) (hN : sN T = W.1 1) (hN26 : W.1 1 ≤ 2600) (hNR : R.1 1 ≤ W.1 1) (hr0 : sR T = sR S) (h22 : T.2.1 22 = S.2.1 22) (h23 : T.2.1 23 = S.2.1 23) (h24 : T.2.1 24 = S.2.1 24) (h21 : T.2.1 21 = S.2.1 21) (hru : ∀ x y z, ruR W x y z ↔ ruR R x y z) (hk : ∀ f, f = 2 ∨ f = 3 ∨ f = 4 → ∀ k, k < R.1 1 → W.2 f k = R.2 f k) (hx : enx R W) (h7 : W.1 7 = R.1 7) (h5 : W.2 5 = R.2 5) (hwf : wfF W) (hws : wfS W) (hkn : ∀ k, R.1 1 ≤ k → k < W.1 1 → W.2 2 k ≠ 0) (hno : noF W 6 (W.2 14 (W.1 12 - 1))) : jW W ∧ jC T W := by
  obtain ⟨⟨-, -, -, ⟨c1, c2, c3⟩, -⟩, -, -, -, -, -, -, -, ⟨w1, w2, w3, ⟨w4, w5, w6⟩, w7⟩, ⟨hru0, hor, hout⟩, -⟩ := h
  have kk : ∀ k, k < W.1 1 → (W.2 2 k = 0 ↔ k = 0) := fun k hk9 => by
    by_cases z : k < R.1 1
    · rw [hk 2 (by omega) k z]; exact w4 k z
    · exact ⟨fun q => absurd q (hkn k (by omega) hk9), fun q => by omega⟩
  have ee : ∀ k, k < W.1 7 → (∃ a, a < W.1 1 ∧ W.2 8 k = nI a) ∧ ∃ b, b < W.1 1 ∧ W.2 9 k = nI b := fun k hk9 => by
    rw [h7] at hk9
    obtain ⟨⟨a, a1, a2⟩, b, b1, b2⟩ := w7 k hk9
    rw [hx.2 8 (by decide) (by decide) k hk9, hx.2 9 (by decide) (by decide) k hk9]
    exact ⟨⟨a, by omega, a2⟩, b, by omega, b2⟩
  have ruT : ∀ x y z, ruC T x y z ↔ ruR W x y z := fun x y z => by rw [ru_same hr0 h22 h23 h24, hru0, hru]
  have orT : ordC T := by
    refine ⟨fun i hi => ?_, fun i j hij hj => ?_⟩
    · rw [hr0] at hi
      rw [h22, h23, h24]
      obtain ⟨x, t, q1, q2, q3, q4, q5⟩ := hor.1 i hi
      exact ⟨x, t, q1, q2, q3, by omega, q5⟩
    · rw [hr0] at hj
      rw [h24]
      obtain ⟨t, u, q1, q2, q3, q4⟩ := hor.2 i j hij hj
      exact ⟨t, u, q1, q2, q3, by omega⟩
  obtain ⟨o1, o2, o3, o4, o5⟩ := hok
  have hcl := (clR_ru (by omega) w1 w2 w4 (by omega) w7 (KnR R)).mp (KnR_cl R)
  have lowo : ∀ k, S.2.1 21 k = 1 → k < R.1 1 := fun k hk9 => by
    by_cases z : k < R.1 1
    · exact z
    · have := o4 k (by rw [c1]; omega)
      rw [this] at hk9; exact absurd hk9 (by decide)
  have inj : ∀ {p q : Nat}, p < 2600 → q < 2600 → nI p = nI q → p = q := fun hp hq e => (nI_eq (by omega) (by omega)).mp e
  have hp := kn_pass hN hN26 (by omega) ruT orT hwf hws kk ee (S.2.1 21) o3 (fun j hj => o4 j (by rw [c1]; omega)) (fun k hk9 => kn_mono hNR hk hx (fun j _ q => by rw [h5]; exact q) ((hout k (lowo k hk9)).mp hk9)) ((hout 0 (by omega)).mpr hcl.1) (fun k hk9 q => by
    rw [h5] at q
    have z : k < R.1 1 := by
      by_cases z : k < R.1 1
      · exact z
      · exact absurd (w6 k (by omega)) q
    exact (hout k z).mpr (hcl.2.1 k z q)) (f := sR T) (Nat.le_refl _) (fun j hj x t hx9 ht u1 u3 u4 u5 => by
    rw [hr0] at hj
    rw [h22] at u1
    rw [h24] at u3
    rw [h23] at u5
    obtain ⟨x9, t9, y1, y2, y3, y4, y5⟩ := hor.1 j hj
    rw [c1] at y4
    rw [y1] at u1
    rw [y2] at u3
    have ex := inj (by omega) (by omega) u1
    have et := inj (by omega) (by omega) u3
    subst ex et
    refine (hout t9 y4).mpr ?_
    have hx8 := (hout x9 (by omega)).mp u4
    rcases u5 with u5 | ⟨y, z1, z2, z3⟩
    · exact (hcl.2.2 x9 t9 (by omega) y4).1 ((hru0 _ _ _).mp ⟨j, hj, y1, u5, y2⟩) hx8
    · have hy := lowo y z3
      exact (hcl.2.2 x9 t9 (by omega) y4).2 y hy ((hru0 _ _ _).mp ⟨j, hj, y1, z2, y2⟩) hx8 ((hout y hy).mp z3))
  rw [Nat.sub_self] at hp
  exact ⟨⟨hwf, hws, hno, ⟨kk, fun k => by rw [h5]; exact w5 k, fun k hk9 => by rw [h5]; exact w6 k (by omega)⟩, ee⟩, ruT, orT, fun k hk9 => by rw [h21]; exact hp k hk9⟩
theorem noF_mk1 {R : SR} {p : Int32} (h : noF R 6 p) (a b : Int32) : noF (mkR R 1 a b) 6 p := by
  rintro i hi ⟨g1, g2, g3⟩
  have hi : i < R.1 1 + 1 := hi
  by_cases e : i = R.1 1
  · subst e
    rw [show (mkR R 1 a b).2 2 (R.1 1) = 1 by simp [mkR, ra, ri, upd]] at g1
    exact absurd g1 (by decide)
  · rw [show (mkR R 1 a b).2 2 i = R.2 2 i by simp [mkR, ra, ri, upd, e]] at g1
    rw [show (mkR R 1 a b).2 3 i = R.2 3 i by simp [mkR, ra, ri, upd, e]] at g2
    rw [show (mkR R 1 a b).2 4 i = R.2 4 i by simp [mkR, ra, ri, upd, e]] at g3
    exact h i (by omega) ⟨g1, g2, g3⟩
theorem ucn_c {F G : Nat → Int32} : ∀ n, (∀ p, p < n → F p = G p) → ucn F n = ucn G n := by
  intro n
  induction n with
  | zero => exact fun _ => rfl
  | succ n ih =>
    intro h
    simp only [ucn]
    rw [h n (by omega), ih (fun p hp => h p (by omega))]
