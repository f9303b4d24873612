/-! THE REFERENCE'S STATE: R.1 its int fields, R.2 its rows, by the field's number; object at (30, 0), rows at (31, field) -/
abbrev SR : Type := (Nat → Nat) × (Nat → Nat → Int32)
def aI (f : Nat) : Bool := !(f == 0 || f == 1 || f == 7 || f == 12 || f == 35 || f == 42 || f == 46 || f == 48) && decide (f < 52)
def aT (f : Nat) : Nat := if f = 5 ∨ f = 6 ∨ f = 21 ∨ f = 32 ∨ f = 41 then 2 else 0
def aN (f : Nat) : Nat := if f = 2 then 2600 else if f = 3 then 2600 else if f = 4 then 2600 else if f = 5 then 2600 else if f = 6 then 2600 else if f = 8 then 3600 else if f = 9 then 3600 else if f = 10 then 3600 else if f = 11 then 3600 else if f = 13 then 60 else if f = 14 then 60 else if f = 15 then 60 else if f = 16 then 60 else if f = 17 then 60 else if f = 18 then 60 else if f = 19 then 60 else if f = 20 then 60 else if f = 21 then 60 else if f = 22 then 1860 else if f = 23 then 1860 else if f = 24 then 1860 else if f = 25 then 1860 else if f = 26 then 960 else if f = 27 then 16 else if f = 28 then 16 else if f = 29 then 16 else if f = 30 then 16 else if f = 31 then 16 else if f = 32 then 16 else if f = 33 then 496 else if f = 34 then 320 else if f = 36 then 60 else if f = 37 then 60 else if f = 38 then 60 else if f = 39 then 60 else if f = 40 then 60 else if f = 41 then 60 else if f = 43 then 20 else if f = 44 then 20 else if f = 45 then 20 else if f = 47 then 256 else if f = 49 then 32 else if f = 50 then 32 else if f = 51 then 16 else 0
def rO (y : Nat → Nat) (R : SR) : List Value := [.int (nI (R.1 0)), .int (nI (R.1 1)), .ref (y 2), .ref (y 3), .ref (y 4), .ref (y 5), .ref (y 6), .int (nI (R.1 7)), .ref (y 8), .ref (y 9), .ref (y 10), .ref (y 11), .int (nI (R.1 12)), .ref (y 13), .ref (y 14), .ref (y 15), .ref (y 16), .ref (y 17), .ref (y 18), .ref (y 19), .ref (y 20), .ref (y 21), .ref (y 22), .ref (y 23), .ref (y 24), .ref (y 25), .ref (y 26), .ref (y 27), .ref (y 28), .ref (y 29), .ref (y 30), .ref (y 31), .ref (y 32), .ref (y 33), .ref (y 34), .int (nI (R.1 35)), .ref (y 36), .ref (y 37), .ref (y 38), .ref (y 39), .ref (y 40), .ref (y 41), .int (nI (R.1 42)), .ref (y 43), .ref (y 44), .ref (y 45), .int (nI (R.1 46)), .ref (y 47), .int (nI (R.1 48)), .ref (y 49), .ref (y 50), .ref (y 51)]
def rR (g : gh_H) (y : Nat → Nat) (R : SR) : Prop := g (30, 0) = some (y 0, .inr (7, rO y R)) ∧ ∀ f, aI f = true → g (31, f) = some (y f, .inl (aT f, aN f, .inl (R.2 f)))
def ra (R : SR) (f : Nat) (F : Nat → Int32) : SR := (R.1, fun a => if a = f then F else R.2 a)
def ri (R : SR) (f v : Nat) : SR := (fun a => if a = f then v else R.1 a, R.2)
def kR (k : Nat) : Bool := k == 30 || k == 31
def rQ (g0 g : gh_H) (y : Nat → Nat) (R : SR) : Prop := rR g y R ∧ fr kR g0 g
theorem rQ.rf {g : gh_H} {y : Nat → Nat} {R : SR} (h : rR g y R) : rQ g g y R := ⟨h, fr.rf⟩
theorem rQ.tr {g0 g g1 : gh_H} {y : Nat → Nat} {R R1 : SR} (h : rQ g0 g y R) (h1 : rQ g g1 y R1) : rQ g0 g1 y R1 := ⟨h1.1, h.2.trans h1.2⟩
theorem rQ.put {g0 g : gh_H} {y : Nat → Nat} {R : SR} (h : rQ g0 g y R) (f : Nat) (F : Nat → Int32) : rQ g0 (gh_u g (31, f) (y f, .inl (aT f, aN f, .inl F))) y (ra R f F) := by
  refine ⟨⟨(gh_un (gh_kd (by decide))).trans h.1.1, fun a ha => ?_⟩, h.2.u rfl⟩
  by_cases e : a = f
  · subst e; simp only [ra, if_true]; exact gh_us
  · simp only [ra, if_neg e]; rw [gh_un (gh_kx e)]; exact h.1.2 a ha
theorem rQ.int {g0 g : gh_H} {y : Nat → Nat} {R : SR} (h : rQ g0 g y R) (f v : Nat) : rQ g0 (gh_u g (30, 0) (y 0, .inr (7, rO y (ri R f v)))) y (ri R f v) :=
  ⟨⟨gh_us, fun a ha => (gh_un (gh_kd (by decide))).trans (h.1.2 a ha)⟩, h.2.u rfl⟩
section RW
variable {l : Launch} {d : gh_D} {z : gh_Z} {mm : gh_M} {rm : Room} {pc : Nat} {ls : List (Option Value)} {rest : List Value} {g0 g : gh_H} {cb sb : Nat} {y : Nat → Nat} {R : SR}
theorem rw_ild (C : gh_X d z mm rm) (h : rQ g0 g y R) (f n : Nat) (hf : aI f = true ∧ aT f = 0 ∧ aN f = n ∧ n < 2 ^ 31) {i : Int32} (j : Nat) (hi : i = nI j) (hj : j < n) (hd : decode mm.2.1 pc = .ok (.iaload, 1)) (k : gh_W l d z (pc + 1) ls (.int (R.2 f j) :: rest) g cb sb) : gh_W l d z pc ls (.int i :: .ref (y f) :: rest) g cb sb := by
  have h1 := h.1.2 f hf.1
  rw [hf.2.1, hf.2.2.1] at h1
  exact gh_ialdN C j h1 rfl hi ⟨hj, hf.2.2.2⟩ hd k
theorem rw_zld (C : gh_X d z mm rm) (h : rQ g0 g y R) (f n : Nat) (hf : aI f = true ∧ aT f = 2 ∧ aN f = n ∧ n < 2 ^ 31) {i : Int32} (j : Nat) (hi : i = nI j) (hj : j < n) (hd : decode mm.2.1 pc = .ok (.baload, 1)) (k : gh_W l d z (pc + 1) ls (.int (R.2 f j) :: rest) g cb sb) : gh_W l d z pc ls (.int i :: .ref (y f) :: rest) g cb sb := by
  have h1 := h.1.2 f hf.1
  rw [hf.2.1, hf.2.2.1] at h1
  exact gh_zaldN C j h1 rfl hi ⟨hj, hf.2.2.2⟩ hd k
theorem rw_ist (C : gh_X d z mm rm) (h : rQ g0 g y R) (f n : Nat) (hf : aI f = true ∧ aT f = 0 ∧ aN f = n ∧ n < 2 ^ 31) {i x : Int32} (j : Nat) (hi : i = nI j) (hj : j < n) (hd : decode mm.2.1 pc = .ok (.iastore, 1)) (k : ∀ g1 : gh_H, rQ g0 g1 y (ra R f (upd (R.2 f) j x)) → gh_W l d z (pc + 1) ls rest g1 cb sb) : gh_W l d z pc ls (.int x :: .int i :: .ref (y f) :: rest) g cb sb := by
  have h1 := h.1.2 f hf.1
  have h2 := h.put f (upd (R.2 f) j x)
  rw [hf.2.1, hf.2.2.1] at h1 h2
  exact gh_iastN C j h1 rfl hi ⟨hj, hf.2.2.2⟩ hd (k _ h2)
theorem rw_zst (C : gh_X d z mm rm) (h : rQ g0 g y R) (f n : Nat) (hf : aI f = true ∧ aT f = 2 ∧ aN f = n ∧ n < 2 ^ 31) {i x : Int32} (j : Nat) (hi : i = nI j) (hj : j < n) (hx : vp_nar .boolean x = x) (hd : decode mm.2.1 pc = .ok (.bastore, 1)) (k : ∀ g1 : gh_H, rQ g0 g1 y (ra R f (upd (R.2 f) j x)) → gh_W l d z (pc + 1) ls rest g1 cb sb) : gh_W l d z pc ls (.int x :: .int i :: .ref (y f) :: rest) g cb sb := by
  have h1 := h.1.2 f hf.1
  have h2 := h.put f (upd (R.2 f) j x)
  rw [hf.2.1, hf.2.2.1] at h1 h2
  refine gh_zastN C j h1 rfl hi ⟨hj, hf.2.2.2⟩ hd ?_
  rw [hx]
  exact k _ h2
theorem rw_get (C : gh_X d z mm rm) (h : rQ g0 g y R) {index k : Nat} {v : Value} (hF : gh_F mm.1.cls index 7 k) (hv : (rO y R)[k]? = some v) (hd : decode mm.2.1 pc = .ok (.getfield index, 3)) (kk : gh_W l d z (pc + 3) ls (v :: rest) g cb sb) : gh_W l d z pc ls (.ref (y 0) :: rest) g cb sb := gh_get C hF h.1.1 hv hd kk
theorem rw_put (C : gh_X d z mm rm) (h : rQ g0 g y R) {index k : Nat} {ty : FieldType} {fin : Bool} {x : Int32} (v : Nat) (hx : x = nI v) (hF : gh_FP mm.1.cls index 7 k ty fin) (hfi : fin = true → mm.1.name = "<init>") (hs : (rO y R).set k (.int (nI v)) = rO y (ri R k v)) (hk : k < 52) (hn : ∀ u : Int32, narrow ty (.int u) = .int u) (hft : ∀ u : Int32, fits ty (.int u) = true) (hd : decode mm.2.1 pc = .ok (.putfield index, 3)) (kk : ∀ g1 : gh_H, rQ g0 g1 y (ri R k v) → gh_W l d z (pc + 3) ls rest g1 cb sb) : gh_W l d z pc ls (.int x :: .ref (y 0) :: rest) g cb sb := by
  subst hx
  exact gh_putL C (rO y (ri R k v)) hF hfi h.1.1 hs hk (hn _) (hft _) hd (kk _ (h.int k v))
end RW
