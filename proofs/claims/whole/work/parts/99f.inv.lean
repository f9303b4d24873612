/-! WHAT HOLDS BETWEEN TWO CALLS -/
def ucn (F : Nat → Int32) : Nat → Nat
  | 0 => 0
  | p + 1 => if F p = -1 then ucn F p else ucn F p + 1
/-- numbers -/
def jN (S : SC) (R : SR) : Prop := (sE S = R.1 12 ∧ 1 ≤ R.1 12 ∧ R.1 12 ≤ 60) ∧ (sP S = R.1 35 ∧ R.1 35 ≤ 60) ∧ (sQ S = R.1 42 ∧ R.1 42 ≤ 20) ∧ (sN S = R.1 1 ∧ 3 ≤ R.1 1 ∧ R.1 1 + 30 ≤ 2 * R.1 35 + 33 * R.1 12 + R.1 42) ∧ R.1 7 + 26 ≤ 26 * R.1 12 + 2 * ucn (R.2 39) (R.1 35) ∧ sR S ≤ R.1 1 + R.1 7
def jZ (R : SR) : Prop := (∀ e, R.1 12 ≤ e → e < 60 → R.2 16 e = 0 ∧ R.2 17 e = 0 ∧ R.2 18 e = 0 ∧ R.2 19 e = 0 ∧ R.2 20 e = 0) ∧ ∀ p, R.1 35 ≤ p → R.2 41 p = 0
/-- epochs -/
def jX (S : SC) (R : SR) : Prop := ∀ e, e < R.1 12 → (S.2.1 4 e = R.2 15 e ∧ S.2.1 5 e = R.2 14 e ∧ S.2.1 6 e = R.2 16 e ∧ S.2.1 7 e = R.2 17 e ∧ S.2.1 8 e = R.2 18 e ∧ S.2.1 9 e = R.2 19 e ∧ S.2.1 10 e = R.2 20 e) ∧ ∃ s, s < R.1 1 ∧ R.2 14 e = nI s
/-- trees -/
def jT1 (S : SC) (R : SR) (e D : Nat) : Prop := TE S R e e D ∧ TI D (rK R e) (rU R e) ∧ OI (rK R e) (ow R e) ∧ (∀ v, v < 31 → rK R e v = -1 ∨ ∃ k, k < R.1 1 ∧ rK R e v = nI k) ∧ ∀ v w, v < 31 → w < 31 → rK R e v = rK R e w → rK R e v ≠ -1 → v = w
def jT (S : SC) (R : SR) : Prop := (∀ e, e < R.1 12 → ∃ D, jT1 S R e D) ∧ ∀ l, l < 16 → S.2.1 20 l = ow R (R.1 12 - 1) l
/-- members -/
def jMo (S : SC) (R : SR) (m : Nat) : Prop := R.2 27 m = -1 ∧ R.2 28 m = -1 ∧ S.2.1 2 m = -1 ∧ R.2 32 m = 0 ∧ R.2 29 m = -1 ∧ (∀ i, i < 5 → S.2.2 0 m i = -1) ∧ (∀ v, v < 31 → R.2 33 (31 * m + v) = -1) ∧ S.1 1 m = 0
def jMi (S : SC) (R : SR) (m e l : Nat) : Prop := R.2 27 m = nI e ∧ e < R.1 12 ∧ l < 16 ∧ R.2 28 m = nI l ∧ ow R e l = nI m ∧ S.2.1 2 m = R.2 14 e ∧ R.2 32 m = 1 ∧ R.2 29 m = rK R e (2 * l) ∧ S.2.2 0 m 0 = R.2 29 m ∧ (∀ i, 1 ≤ i → i ≤ 4 → S.2.2 0 m i = R.2 33 (31 * m + pn l i) ∧ (R.2 33 (31 * m + pn l i) = -1 ∨ R.2 33 (31 * m + pn l i) = rK R e (pn l i)) ∧ (rK R e (pn l i) ≠ -1 → R.2 33 (31 * m + pn l i) = rK R e (pn l i) ∨ tb (rU R e (pn l i)) l = true)) ∧ (∀ v, v < 31 → (∀ i, 1 ≤ i → i ≤ 4 → v ≠ pn l i) → R.2 33 (31 * m + v) = -1) ∧ (e + 1 = R.1 12 → S.1 1 m ≤ R.1 42)
def jM (S : SC) (R : SR) : Prop := ∀ m, m < 16 → (S.2.1 0 m = R.2 27 m ∧ S.2.1 1 m = R.2 28 m ∧ S.2.1 3 m = R.2 30 m ∧ R.2 31 m = nI (S.1 1 m) ∧ S.1 1 m ≤ 20 ∧ ∀ k, k < S.1 1 m → S.2.2 1 m k = R.2 34 (20 * m + k)) ∧ (jMo S R m ∨ ∃ e l, jMi S R m e l)
/-- packages -/
def jK (S : SC) (R : SR) : Prop := (∀ p, p < R.1 35 → (S.2.1 11 p = R.2 36 p ∧ S.2.1 12 p = R.2 37 p ∧ S.2.1 13 p = R.2 38 p ∧ S.2.1 14 p = R.2 39 p ∧ S.2.1 16 p = R.2 41 p) ∧ (∃ q, q < 16 ∧ R.2 36 p = nI q) ∧ (∃ f, f + 1 < R.1 1 ∧ R.2 37 p = nI f ∧ R.2 38 p = nI (f + 1)) ∧ (R.2 41 p = 0 ∨ R.2 41 p = 1) ∧ ((R.2 39 p = -1 ∧ R.2 41 p = 0) ∨ ∃ e l, 1 ≤ e ∧ e < R.1 12 ∧ R.2 39 p = nI e ∧ l < 16 ∧ R.2 40 p = nI l ∧ S.2.1 15 p = nI l ∧ ow R e l = R.2 36 p ∧ rK R e (2 * l) = R.2 38 p ∧ tb (R.2 19 e) l = true)) ∧ ∀ p q, p < q → q < R.1 35 → ∃ f g, R.2 38 p = nI f ∧ R.2 37 q = nI g ∧ f < g ∧ g < R.1 1
/-- proposals -/
def jP (S : SC) (R : SR) : Prop := (∀ i, i < R.1 42 → S.2.1 17 i = R.2 43 i ∧ (∃ q, q < 16 ∧ R.2 44 i = nI q ∧ R.2 27 q = nI (R.1 12 - 1) ∧ (R.2 43 i = 2 → ∃ k, k < S.1 1 q ∧ R.2 45 i = R.2 34 (20 * q + k))) ∧ (R.2 43 i = 0 ∨ R.2 43 i = 1 ∨ R.2 43 i = 2) ∧ (R.2 43 i ≠ 2 → S.2.1 18 i = R.2 45 i) ∧ (R.2 43 i = 2 → S.2.1 18 i = R.2 28 (R.2 44 i).toNatClampNeg ∧ S.2.1 19 i = R.2 45 i) ∧ (R.2 43 i = 1 → ∃ b, b < 16 ∧ R.2 45 i = nI b) ∧ (R.2 43 i = 0 → ∃ p, p < R.1 35 ∧ R.2 45 i = nI p)) ∧ ∀ i j, i < j → j < R.1 42 → R.2 43 i = 2 → R.2 43 j = 2 → R.2 45 i ≠ R.2 45 j
/-- every secret was made for one thing: 1 a node, 2 an epoch, 3 and 4 a package, 5 an update -/
def jL (S : SC) (R : SR) : Prop := ∃ ρ : Nat → Nat, (∀ e s, e < R.1 12 → R.2 14 e = nI s → s < R.1 1 → ρ s = 2) ∧ (∀ e v k, e < R.1 12 → v < 31 → rK R e v = nI k → k < R.1 1 → ρ k = 1 ∨ ρ k = 4 ∨ ρ k = 5) ∧ (∀ p f, p < R.1 35 → R.2 37 p = nI f → f + 1 < R.1 1 → ρ f = 3 ∧ ρ (f + 1) = 4) ∧ (∀ m k, m < 16 → k < S.1 1 m → ∃ u, u < R.1 1 ∧ R.2 34 (20 * m + k) = nI u ∧ ρ u = 5) ∧ (∀ e v p, e < R.1 12 → v < 31 → p < R.1 35 → rK R e v = R.2 38 p → ∃ f, f ≤ e ∧ R.2 39 p = nI f) ∧ (∀ m k a e v, m < 16 → k < S.1 1 m → R.2 27 m = nI a → a < R.1 12 → e ≤ a → v < 31 → rK R e v ≠ R.2 34 (20 * m + k)) ∧ ∀ m i j, m < 16 → i < j → j < S.1 1 m → R.2 34 (20 * m + i) ≠ R.2 34 (20 * m + j)
/-- secrets and what was sent -/
def jW (R : SR) : Prop := wfF R ∧ wfS R ∧ noF R 6 (R.2 14 (R.1 12 - 1)) ∧ ((∀ k, k < R.1 1 → (R.2 2 k = 0 ↔ k = 0)) ∧ (∀ k, R.2 5 k = 0 ∨ R.2 5 k = 1) ∧ ∀ k, R.1 1 ≤ k → R.2 5 k = 0) ∧ ∀ k, k < R.1 7 → (∃ a, a < R.1 1 ∧ R.2 8 k = nI a) ∧ ∃ b, b < R.1 1 ∧ R.2 9 k = nI b
/-- the intruder -/
def jC (S : SC) (R : SR) : Prop := (∀ x y z, ruC S x y z ↔ ruR R x y z) ∧ ordC S ∧ ∀ k, k < R.1 1 → (S.2.1 21 k = 1 ↔ KnR R k)
/-- what each commit did -/
def jH1 (R : SR) (e D : Nat) : Prop := ∃ c, c < 16 ∧ R.2 15 e = nI c ∧ rK R (e - 1) (2 * c) ≠ -1 ∧ tb (R.2 17 e) c = false ∧
  (∀ l, l < 16 → rK R (e - 1) (2 * l) ≠ -1 → tb (R.2 17 e) l = false → ow R e l = ow R (e - 1) l ∧ tb (R.2 19 e) l = false ∧ rK R e (2 * l) ≠ -1 ∧ (l ≠ c → tb (R.2 18 e) l = true ∨ rK R e (2 * l) = rK R (e - 1) (2 * l)) ∧
    (∀ i, 1 ≤ i → i ≤ 4 → rK R e (pn l i) ≠ -1 → tb (R.2 16 e) (pn l i) = true ∨ (rK R e (pn l i) = rK R (e - 1) (pn l i) ∧ tb (R.2 18 e) l = false ∧ (tb (rU R (e - 1) (pn l i)) l = true → tb (rU R e (pn l i)) l = true))) ∧
    (l ≠ c → ∀ h, lowc D (R.2 16 e) l = some h → ∃ i, i ≤ h ∧ pn l i ∈ rsv (rK R e) (rU R e) h (pn l h) ∧ (i = 0 ∨ (rK R e (pn l i) = rK R (e - 1) (pn l i) ∧ tb (rU R (e - 1) (pn l i)) l = false ∧ tb (R.2 18 e) l = false)) ∧ ∃ k, k < R.1 7 ∧ R.2 8 k = rK R e (pn l i) ∧ R.2 10 k = nI e ∧ R.2 11 k = nI (pn l (h + 1)))) ∧
  (∀ l, l < 32 → tb (R.2 19 e) l = true → l < 16 ∧ ∀ i, 1 ≤ i → i ≤ 4 → rK R e (pn l i) ≠ -1 → tb (R.2 16 e) (pn l i) = true ∨ tb (rU R e (pn l i)) l = true) ∧ (R.2 21 e = 0 → R.2 16 e = 0) ∧ (∀ v, v < 32 → tb (R.2 16 e) v = true → v < tW D ∧ rK R e v ≠ -1)
def jH (R : SR) : Prop := ∀ e D, 1 ≤ e → e < R.1 12 → R.2 13 e = nI D → D ≤ 4 → jH1 R e D
/-- nobody goes back -/
def jF (R : SR) : Prop := (∀ m a p e, m < 16 → R.2 27 m = nI a → a < R.1 12 → p < R.1 35 → R.2 36 p = nI m → R.2 41 p = 0 → R.2 39 p = nI e → e < R.1 12 → a < e) ∧ ∀ e c q, 1 ≤ e → e < R.1 12 → c < 16 → q < 16 → R.2 15 e = nI c → ow R (e - 1) c = nI q → (∃ a, e ≤ a ∧ a < R.1 12 ∧ R.2 27 q = nI a) ∨ (R.2 27 q = -1 ∧ ∀ p f, p < R.1 35 → R.2 36 p = nI q → R.2 41 p = 0 → R.2 39 p = nI f → f < R.1 12 → e ≤ f)
def J (S : SC) (R : SR) : Prop := jN S R ∧ jZ R ∧ jX S R ∧ jT S R ∧ jM S R ∧ jK S R ∧ jP S R ∧ jL S R ∧ jW R ∧ jC S R ∧ jH R ∧ jF R
/-- the fields that carry nothing from call to call -/
def cz (R : SR) : SR := (fun f => if f = 0 ∨ f = 46 ∨ f = 48 then 0 else R.1 f, fun f => if f = 6 ∨ f = 47 ∨ f = 49 ∨ f = 50 ∨ f = 51 then fun _ => 0 else R.2 f)
theorem jcz (S : SC) (R : SR) : J S (cz R) = J S R := rfl
theorem J_c {S : SC} {R T : SR} (h : J S R) (h1 : ∀ f, f ≠ 0 → f ≠ 46 → f ≠ 48 → T.1 f = R.1 f) (h2 : ∀ f, f ≠ 6 → f ≠ 47 → f ≠ 49 → f ≠ 50 → f ≠ 51 → T.2 f = R.2 f) : J S T := by
  have e : cz T = cz R := sr_ext (fun f => by
    simp only [cz]
    by_cases q : f = 0 ∨ f = 46 ∨ f = 48
    · rw [if_pos q, if_pos q]
    · rw [if_neg q, if_neg q]; exact h1 f (fun h => q (Or.inl h)) (fun h => q (Or.inr (Or.inl h))) (fun h => q (Or.inr (Or.inr h)))) (fun f => by
    simp only [cz]
    by_cases q : f = 6 ∨ f = 47 ∨ f = 49 ∨ f = 50 ∨ f = 51
    · rw [if_pos q, if_pos q]
    · rw [if_neg q, if_neg q]; exact h2 f (by omega) (by omega) (by omega) (by omega) (by omega))
  rw [← jcz, e, jcz]; exact h
