/-! THE COUNT OF BITS -/
theorem shm {a b m M k : Nat} (ha : a < 2 ^ 8) (hm : m < 2 ^ 8) (hk : k ≤ 8) (hmk : m < 2 ^ (8 - k)) : (2 ^ 8 * b + a) >>> k &&& (2 ^ 8 * M + m) = 2 ^ 8 * (b >>> k &&& M) + (a >>> k &&& m) := by
  have h2 : (a >>> k &&& m) < 2 ^ 8 := Nat.lt_of_le_of_lt Nat.and_le_right hm
  apply Nat.eq_of_testBit_eq
  intro j
  rw [Nat.testBit_and, Nat.testBit_shiftRight, Nat.testBit_two_pow_mul_add b ha, Nat.testBit_two_pow_mul_add M hm, Nat.testBit_two_pow_mul_add _ h2, Nat.testBit_and, Nat.testBit_and, Nat.testBit_shiftRight, Nat.testBit_shiftRight]
  by_cases hj : j < 8
  · rw [if_pos hj, if_pos hj]
    by_cases hkj : k + j < 8
    · rw [if_pos hkj]
    · rw [if_neg hkj]
      have : m.testBit j = false := Nat.testBit_lt_two_pow (Nat.lt_of_lt_of_le hmk (Nat.pow_le_pow_right (by decide) (by omega)))
      rw [this]; simp
  · rw [if_neg hj, if_neg hj, if_neg (by omega), show k + j - 8 = k + (j - 8) by omega]
def pc8 (a : Nat) : Nat := ((List.range 8).filter (fun i => a.testBit i)).length
def by1 (a : Nat) : Nat := a - (a >>> 1 &&& 85)
def by2 (q : Nat) : Nat := (q &&& 51) + (q >>> 2 &&& 51)
def by3 (r : Nat) : Nat := (r + r / 16) % 16
theorem by_f : ∀ a, a < 256 → (a >>> 1 &&& 85) ≤ a ∧ by1 a < 256 ∧ by2 (by1 a) ≤ 68 ∧ by2 (by1 a) % 16 ≤ 4 ∧ by3 (by2 (by1 a)) = pc8 a ∧ pc8 a ≤ 8 := by decide +kernel
theorem bfin {p q r t : Nat} (h1 : p ≤ 8) (h2 : q ≤ 8) (h3 : r ≤ 8) (h4 : t ≤ 8) : (16777216 * t + 65536 * (r + t) + 256 * (q + r) + (p + q) + (16777216 * t + 65536 * (r + t) + 256 * (q + r) + (p + q)) / 65536) % 64 = p + q + r + t := by
  have e : (16777216 * t + 65536 * (r + t) + 256 * (q + r) + (p + q)) / 65536 = 256 * t + (r + t) := by omega
  rw [e, show 16777216 * t + 65536 * (r + t) + 256 * (q + r) + (p + q) + (256 * t + (r + t)) = (p + q + r + t) + 64 * (262144 * t + 1024 * (r + t) + 4 * (q + r) + 4 * t) by omega, Nat.add_mul_mod_self_left]
  exact Nat.mod_eq_of_lt (by omega)
theorem b4 {a b c e : Nat} : 16777216 * e + 65536 * c + 256 * b + a = 2 ^ 8 * (2 ^ 8 * (2 ^ 8 * e + c) + b) + a := by omega
theorem shm4 {a b c e m k : Nat} (ha : a < 256) (hb : b < 256) (hc : c < 256) (hk : k ≤ 8) (hm : m < 2 ^ 8) (hmk : m < 2 ^ (8 - k)) : (16777216 * e + 65536 * c + 256 * b + a) >>> k &&& (16777216 * m + 65536 * m + 256 * m + m) = 16777216 * (e >>> k &&& m) + 65536 * (c >>> k &&& m) + 256 * (b >>> k &&& m) + (a >>> k &&& m) := by
  rw [b4, b4, shm (by omega) hm hk hmk, shm (by omega) hm hk hmk, shm (by omega) hm hk hmk, b4]
theorem bcNat {a b c e : Nat} (ha : a < 256) (hb : b < 256) (hc : c < 256) (he : e < 256) {n y1 y2 y3 u : Nat} (hn : n = 16777216 * e + 65536 * c + 256 * b + a)
    (h1 : y1 = n - (n >>> 1 &&& 1431655765)) (h2 : y2 = (y1 &&& 858993459) + (y1 >>> 2 &&& 858993459)) (h3 : y3 = (y2 + y2 >>> 4) &&& 252645135) (hu : u = y3 + y3 >>> 8) :
    (n >>> 1 &&& 1431655765) ≤ n ∧ y1 < 2 ^ 32 ∧ y2 < 2 ^ 32 ∧ y2 + y2 >>> 4 < 2 ^ 32 ∧ u < 2 ^ 32 ∧ u + u >>> 16 < 2 ^ 32 ∧ (u + u >>> 16) &&& 63 = pc8 a + pc8 b + pc8 c + pc8 e := by
  obtain ⟨a1, a2, a3, a6, a4, a5⟩ := by_f a ha
  obtain ⟨b1, b2, b3, b6, b4, b5⟩ := by_f b hb
  obtain ⟨c1, c2, c3, c6, c4, c5⟩ := by_f c hc
  obtain ⟨e1, e2, e3, e6, e4, e5⟩ := by_f e he
  have s1 : n >>> 1 &&& 1431655765 = 16777216 * (e >>> 1 &&& 85) + 65536 * (c >>> 1 &&& 85) + 256 * (b >>> 1 &&& 85) + (a >>> 1 &&& 85) := by rw [hn]; exact shm4 (e := e) (k := 1) (m := 85) ha hb hc (by decide) (by decide) (by decide)
  have t1 : y1 = 16777216 * by1 e + 65536 * by1 c + 256 * by1 b + by1 a := by unfold by1; omega
  have s2 : y1 &&& 858993459 = 16777216 * (by1 e &&& 51) + 65536 * (by1 c &&& 51) + 256 * (by1 b &&& 51) + (by1 a &&& 51) := by rw [t1]; exact shm4 (e := by1 e) (k := 0) (m := 51) a2 b2 c2 (by decide) (by decide) (by decide)
  have s3 : y1 >>> 2 &&& 858993459 = 16777216 * (by1 e >>> 2 &&& 51) + 65536 * (by1 c >>> 2 &&& 51) + 256 * (by1 b >>> 2 &&& 51) + (by1 a >>> 2 &&& 51) := by rw [t1]; exact shm4 (e := by1 e) (k := 2) (m := 51) a2 b2 c2 (by decide) (by decide) (by decide)
  obtain ⟨ra, era⟩ : ∃ r, r = by2 (by1 a) := ⟨_, rfl⟩
  obtain ⟨rb, erb⟩ : ∃ r, r = by2 (by1 b) := ⟨_, rfl⟩
  obtain ⟨rc, erc⟩ : ∃ r, r = by2 (by1 c) := ⟨_, rfl⟩
  obtain ⟨re, ere⟩ : ∃ r, r = by2 (by1 e) := ⟨_, rfl⟩
  have t2 : y2 = 16777216 * re + 65536 * rc + 256 * rb + ra := by rw [era, erb, erc, ere]; unfold by2; omega
  rw [← era] at a3 a4 a6
  rw [← erb] at b3 b4 b6
  rw [← erc] at c3 c4 c6
  rw [← ere] at e3 e4 e6
  have s4 : y2 >>> 4 = y2 / 16 := Nat.shiftRight_eq_div_pow _ _
  have t3 : y2 + y2 >>> 4 = 16777216 * (re + re / 16) + 65536 * (rc + rc / 16 + 16 * (re % 16)) + 256 * (rb + rb / 16 + 16 * (rc % 16)) + (ra + ra / 16 + 16 * (rb % 16)) := by rw [s4, t2]; omega
  have s5 : y3 = 16777216 * ((re + re / 16) &&& 15) + 65536 * ((rc + rc / 16 + 16 * (re % 16)) &&& 15) + 256 * ((rb + rb / 16 + 16 * (rc % 16)) &&& 15) + ((ra + ra / 16 + 16 * (rb % 16)) &&& 15) := by
    rw [h3, t3]; exact shm4 (e := re + re / 16) (k := 0) (m := 15) (by omega) (by omega) (by omega) (by decide) (by decide) (by decide)
  have and15 : ∀ x, x &&& 15 = x % 16 := fun x => Nat.and_two_pow_sub_one_eq_mod x 4
  rw [and15, and15, and15, and15, Nat.add_mul_mod_self_left, Nat.add_mul_mod_self_left, Nat.add_mul_mod_self_left] at s5
  unfold by3 at a4 b4 c4 e4
  have t4 : y3 = 16777216 * pc8 e + 65536 * pc8 c + 256 * pc8 b + pc8 a := by rw [s5, a4, b4, c4, e4]
  have s6 : y3 >>> 8 = y3 / 256 := Nat.shiftRight_eq_div_pow _ _
  have t5 : u = 16777216 * pc8 e + 65536 * (pc8 c + pc8 e) + 256 * (pc8 b + pc8 c) + (pc8 a + pc8 b) := by rw [hu, s6, t4]; omega
  have s7 : u >>> 16 = u / 65536 := Nat.shiftRight_eq_div_pow _ _
  have and63 : ∀ x, x &&& 63 = x % 64 := fun x => Nat.and_two_pow_sub_one_eq_mod x 6
  rw [s7, and63]
  refine ⟨by omega, by omega, by omega, by omega, by omega, by omega, by rw [t5]; exact bfin a5 b5 c5 e5⟩
def tn (x : Int32) : Nat := x.toBitVec.toNat
theorem tn_lt (x : Int32) : tn x < 2 ^ 32 := x.toBitVec.isLt
theorem tn_and (x y : Int32) : tn (x &&& y) = tn x &&& tn y := by unfold tn; rw [Int32.toBitVec_and, BitVec.toNat_and]
theorem tn_add (x y : Int32) : tn (x + y) = (tn x + tn y) % 2 ^ 32 := by unfold tn; rw [Int32.toBitVec_add, BitVec.toNat_add]
theorem tn_sub (x y : Int32) : tn (x - y) = (2 ^ 32 - tn y + tn x) % 2 ^ 32 := by unfold tn; rw [Int32.toBitVec_sub, BitVec.toNat_sub]
theorem tn_ush (x y : Int32) {k : Nat} (h : (y.toUInt32 &&& Int32.toUInt32 31).toNat % 32 = k) : tn (ush x y) = tn x >>> k := by
  show (x.toUInt32 >>> (y.toUInt32 &&& Int32.toUInt32 31)).toNat = _
  rw [UInt32.toNat_shiftRight, h]; rfl
theorem tn_inj {x y : Int32} (h : tn x = tn y) : x = y := Int32.toBitVec_inj.mp (BitVec.eq_of_toNat_eq h)
theorem tn_nI {k : Nat} (h : k < 2 ^ 31) : tn (nI k) = k := by
  unfold tn nI
  rw [Int32.toBitVec_ofNat']
  rw [BitVec.toNat_ofNat]
  omega
theorem bcn_n (x : Int32) {a b c e : Nat} (ha : a < 256) (hb : b < 256) (hc : c < 256) (he : e < 256) (hn : tn x = 16777216 * e + 65536 * c + 256 * b + a) : bcn x = nI (pc8 a + pc8 b + pc8 c + pc8 e) := by
  obtain ⟨g1, g2, g3, g4, g5, g6, g7⟩ := bcNat ha hb hc he hn rfl rfl rfl rfl
  obtain ⟨n, en⟩ : ∃ n, n = tn x := ⟨_, rfl⟩
  have hn32 := tn_lt x
  rw [← en] at g1 g2 g3 g4 g5 g6 g7 hn32
  have e1 : tn (bc1 x) = n - (n >>> 1 &&& 1431655765) := by
    unfold bc1
    rw [tn_sub, tn_and, tn_ush x 1 (k := 1) (by decide), show tn 1431655765 = 1431655765 by decide, ← en]; omega
  have e2 : tn (bc2 (bc1 x)) = (n - (n >>> 1 &&& 1431655765) &&& 858993459) + ((n - (n >>> 1 &&& 1431655765)) >>> 2 &&& 858993459) := by
    unfold bc2
    rw [tn_add, tn_and, tn_and, tn_ush _ 2 (k := 2) (by decide), show tn 858993459 = 858993459 by decide, e1]
    exact Nat.mod_eq_of_lt g3
  obtain ⟨y2, ey2⟩ : ∃ y, y = (n - (n >>> 1 &&& 1431655765) &&& 858993459) + ((n - (n >>> 1 &&& 1431655765)) >>> 2 &&& 858993459) := ⟨_, rfl⟩
  rw [← ey2] at g3 g4 g5 g6 g7 e2
  have e3 : tn (bc3 (bc2 (bc1 x))) = (y2 + y2 >>> 4) &&& 252645135 := by
    unfold bc3
    rw [tn_and, tn_add, tn_ush _ 4 (k := 4) (by decide), show tn 252645135 = 252645135 by decide, e2, Nat.mod_eq_of_lt g4]
  obtain ⟨y3, ey3⟩ : ∃ y, y = (y2 + y2 >>> 4) &&& 252645135 := ⟨_, rfl⟩
  rw [← ey3] at g5 g6 g7 e3
  have e4 : tn (bc3 (bc2 (bc1 x)) + ush (bc3 (bc2 (bc1 x))) 8) = y3 + y3 >>> 8 := by
    rw [tn_add, tn_ush _ 8 (k := 8) (by decide), e3]; exact Nat.mod_eq_of_lt g5
  obtain ⟨⟨-, -, -, -, -, a5⟩, ⟨-, -, -, -, -, b5⟩, ⟨-, -, -, -, -, c5⟩, -, -, -, -, -, e5⟩ := And.intro (by_f a ha) (And.intro (by_f b hb) (And.intro (by_f c hc) (by_f e he)))
  apply tn_inj
  rw [tn_nI (by omega), ← g7]
  show tn ((bc3 (bc2 (bc1 x)) + ush (bc3 (bc2 (bc1 x))) 8 + ush (bc3 (bc2 (bc1 x)) + ush (bc3 (bc2 (bc1 x))) 8) 16) &&& 63) = _
  rw [tn_and, tn_add, tn_ush _ 16 (k := 16) (by decide), show tn 63 = 63 by decide, e4, Nat.mod_eq_of_lt g6]
theorem rng_add (n m : Nat) (p : Nat → Bool) : ((List.range (n + m)).filter p).length = ((List.range n).filter p).length + ((List.range m).filter (fun i => p (n + i))).length := by
  rw [List.range_add, List.filter_append, List.length_append, List.filter_map, List.length_map]; rfl
theorem bcn_c (x : Int32) : bcn x = nI ((List.range 32).filter (fun i => tb x i)).length := by
  have hx := tn_lt x
  rw [bcn_n x (a := tn x % 256) (b := tn x / 256 % 256) (c := tn x / 65536 % 256) (e := tn x / 16777216) (by omega) (by omega) (by omega) (by omega) (by omega)]
  have t : ∀ i, tb x i = (tn x).testBit i := fun i => by simp [tb, tn, BitVec.getLsbD]
  have d : ∀ k i, i < 8 → (tn x / 2 ^ k % 256).testBit i = (tn x).testBit (k + i) := fun k i hi => by
    rw [show (256 : Nat) = 2 ^ 8 from rfl, Nat.testBit_mod_two_pow, decide_eq_true hi, Bool.true_and, ← Nat.shiftRight_eq_div_pow, Nat.testBit_shiftRight]
  have fc : ∀ (p q : Nat → Bool) (n : Nat), (∀ i, i < n → p i = q i) → ((List.range n).filter p).length = ((List.range n).filter q).length := fun p q n h => by
    rw [List.filter_congr (fun i hi => h i (List.mem_range.mp hi))]
  congr 1
  rw [show (32 : Nat) = 8 + (8 + (8 + 8)) from rfl, rng_add, rng_add, rng_add]
  unfold pc8
  rw [fc _ (fun i => tb x i) 8 (fun i hi => by have := d 0 i hi; simp at this; rw [t, this]), fc (fun i => (tn x / 256 % 256).testBit i) (fun i => tb x (8 + i)) 8 (fun i hi => by rw [t]; exact d 8 i hi), fc (fun i => (tn x / 65536 % 256).testBit i) (fun i => tb x (8 + (8 + i))) 8 (fun i hi => by rw [t, ← Nat.add_assoc]; exact d 16 i hi), fc (fun i => (tn x / 16777216).testBit i) (fun i => tb x (8 + (8 + (8 + i)))) 8 (fun i hi => by
    rw [t, show 8 + (8 + (8 + i)) = 24 + i by omega, ← d 24 i hi, Nat.mod_eq_of_lt (by omega)])]
  omega
theorem ndN : ∀ (L M : List Nat), L.Nodup → (∀ x, x ∈ L → x ∈ M) → L.length ≤ M.length := by
  intro L
  induction L with
  | nil => exact fun M _ _ => Nat.zero_le _
  | cons x L ih =>
    intro M hn hs
    have hx := hs x (by simp)
    rw [List.nodup_cons] at hn
    have h1 := ih (M.erase x) hn.2 (fun y hy => (List.mem_erase_of_ne (fun e => hn.1 (by rw [← e]; exact hy))).mpr (hs y (by simp [hy])))
    rw [List.length_erase_of_mem hx] at h1
    have h2 : 0 < M.length := List.length_pos_of_mem hx
    rw [List.length_cons]
    omega
theorem bcn_res {D : Nat} {K U : Nat → Int32} (hT : TI D K U) {h v : Nat} (h4 : h ≤ 4) (hv : v < 31) (hw : v < tW D) (hh : hgt v = h) : bcn (res D K U h v) = nI (rsv K U h v).length := by
  rw [bcn_c]
  congr 1
  have hm : ∀ r, r ∈ (List.range 32).filter (fun i => tb (res D K U h v) i) ↔ r ∈ rsv K U h v := fun r => by
    rw [List.mem_filter, List.mem_range]
    constructor
    · rintro ⟨h1, h2⟩; exact (res_m hT h v r h4 hv hw hh h1).mp h2
    · intro h1
      have := (rsv_in hT h v r h4 hv hh h1).2.1
      exact ⟨by omega, (res_m hT h v r h4 hv hw hh (by omega)).mpr h1⟩
  exact Nat.le_antisymm (ndN _ _ (List.Pairwise.filter _ List.nodup_range) (fun r hr => (hm r).mp hr)) (ndN _ _ (rsv_nd hT h v h4 hv hh) (fun r hr => (hm r).mpr hr))
