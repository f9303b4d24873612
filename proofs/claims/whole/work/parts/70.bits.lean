/-! bits -/
def tb (x : Int32) (i : Nat) : Bool := x.toBitVec.getLsbD i
theorem i32_ext {x y : Int32} (h : ∀ i, i < 32 → tb x i = tb y i) : x = y := by
  apply Int32.toBitVec_inj.mp
  apply BitVec.eq_of_getLsbD_eq
  intro i hi
  exact h i hi
theorem tb_or (x y : Int32) (i : Nat) : tb (x ||| y) i = (tb x i || tb y i) := by simp [tb]
theorem tb_and (x y : Int32) (i : Nat) : tb (x &&& y) i = (tb x i && tb y i) := by simp [tb]
theorem tb_0 (i : Nat) : tb 0 i = false := by simp [tb]
theorem tb_not (x : Int32) {i : Nat} (h : i < 32) : tb (x ^^^ (-1)) i = !tb x i := by
  have : tb (-1) i = true := by
    have e : ∀ j, j < 32 → tb (-1) j = true := by decide
    exact e i h
  simp only [tb] at this ⊢
  rw [Int32.toBitVec_xor, BitVec.getLsbD_xor, this]
  simp
theorem tb_bit {v i : Nat} (hv : v < 32) (hi : i < 32) : tb (bitN v) i = decide (i = v) := by
  have e : ∀ v, v < 32 → ∀ i, i < 32 → tb (bitN v) i = decide (i = v) := by decide +kernel
  exact e v hv i hi
theorem and_bit {x : Int32} {v : Nat} (hv : v < 32) : x &&& bitN v = 0 ↔ tb x v = false := by
  constructor
  · intro h
    have h1 := congrArg (fun y => tb y v) h
    simp only [tb_and, tb_0, tb_bit hv hv] at h1
    simpa using h1
  · intro h
    apply i32_ext
    intro i hi
    rw [tb_and, tb_0, tb_bit hv hi]
    by_cases e : i = v
    · subst e; simp [h]
    · simp [e]
theorem and_bit' {x : Int32} {v : Nat} (hv : v < 32) : ¬ x &&& bitN v = 0 ↔ tb x v = true := by
  rw [and_bit hv]; simp
theorem shr_bit (x : Int32) {v : Nat} (hv : v < 32) : (x >>> (nI v &&& 31)) &&& 1 = if tb x v = true then 1 else 0 := by
  have key : tb (x >>> (nI v &&& 31)) 0 = tb x v := by
    have e : (nI v &&& 31).toBitVec.smod 32 = BitVec.ofNat 32 v := (by decide +kernel : ∀ v, v < 32 → (nI v &&& 31).toBitVec.smod 32 = BitVec.ofNat 32 v) v hv
    have e2 : (BitVec.ofNat 32 v).toNat = v := by
      rw [BitVec.toNat_ofNat]; exact Nat.mod_eq_of_lt (by omega)
    simp only [tb, Int32.toBitVec_shiftRight]
    rw [e, BitVec.sshiftRight', BitVec.getLsbD_sshiftRight, e2]
    simp [hv]
  have e1 : ∀ i, i < 32 → tb 1 i = decide (i = 0) := by decide
  apply i32_ext
  intro i hi
  rw [tb_and, e1 i hi]
  by_cases h0 : i = 0
  · subst h0
    rw [key]
    cases tb x v with
    | true => rfl
    | false => rfl
  · simp only [h0, decide_false, Bool.and_false]
    cases tb x v with
    | true => show false = tb 1 i; rw [e1 i hi]; simp [h0]
    | false => show false = tb 0 i; rw [tb_0]
