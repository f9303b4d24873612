/-! the JDK's: Arrays.fill, Arrays.copyOf, Math.min, Math.max -/
def fl (i : Nat) (x : Int32) (f : Nat → Int32) : Nat → Int32 := fun j => if j < i then x else f j
theorem fl_0 (x : Int32) (f : Nat → Int32) : fl 0 x f = f := by funext j; simp [fl]
theorem fl_s (i : Nat) (x : Int32) (f : Nat → Int32) : upd (fl i x f) i x = fl (i + 1) x f := by
  funext j
  simp only [upd, fl]
  by_cases h : j = i
  · subst h; simp
  · by_cases h2 : j < i
    · simp [h, h2, show j < i + 1 by omega]
    · simp [h, h2, show ¬ j < i + 1 by omega]
set_option maxRecDepth 100000 in
set_option maxHeartbeats 4000000 in
theorem c_fill (l : Launch) (d : gh_D) (g : gh_H) {K : gh_K} {a n : Nat} {f : Nat → Int32} (x : Int32) (hg : g K = some (a, .inl (0, n, .inl f))) (hn : n < 2 ^ 31) : gh_C l d mA_fill (rr 0 0 0) [.ref a, .int x] g (fun v g1 => v = none ∧ g1 = gh_u g K (a, .inl (0, n, .inl (fl n x f)))) := by
  refine gh_of [some (.ref a), some (.int x), none, none] (by decide) rfl (Nat.le_of_ble_eq_true rfl) (by simp [Value.category]) (fun z C hQ => ?_)
  show gh_W l d z 0 [some (.ref a), some (.int x), none, none] [] g 0 0
  have loop : ∀ (k i : Nat), i + k = n → gh_W l d z 5 [some (.ref a), some (.int x), some (.int (nI i)), some (.int (nI n))] [] (gh_u g K (a, .inl (0, n, .inl (fl i x f)))) 0 0 := by
    intro k
    induction k with
    | zero =>
      intro i hi
      have hi : i = n := by omega
      subst hi
      refine gh_iload_n C dA_fill_5 rfl ?_
      refine gh_iload_n C dA_fill_6 rfl ?_
      refine gh_icmp_ge C 20 dA_fill_7 (by decide) (fun c7 => ?_) (fun c7 => ?_)
      ·
        refine gh_vret C hQ rfl dA_fill_20 ?_
        exact ⟨rfl, rfl⟩
      · exact absurd (nI_le (Nat.le_refl i) (by omega)) c7
    | succ k ih =>
      intro i hi
      have hlt : i < n := by omega
      refine gh_iload_n C dA_fill_5 rfl ?_
      refine gh_iload_n C dA_fill_6 rfl ?_
      refine gh_icmp_ge C 20 dA_fill_7 (by decide) (fun c7 => ?_) (fun c7 => ?_)
      · exact absurd c7 (nI_ge hlt (by omega))
      ·
        refine gh_aload_n C dA_fill_10 rfl ?_
        refine gh_iload_n C dA_fill_11 rfl ?_
        refine gh_iload_n C dA_fill_12 rfl ?_
        refine gh_iastN C (i) gh_us rfl rfl ⟨hlt, hn⟩ dA_fill_13 ?_
        refine gh_iinc C (nI (i + 1)) [some (.ref a), some (.int x), some (.int (nI (i + 1))), some (.int (nI n))] dA_fill_14 rfl (gh_inc i) rfl ?_
        refine gh_goto C 5 dA_fill_17 (by decide) ?_
        rw [gh_uu, fl_s]
        exact ih (i + 1) (by omega)
  refine gh_iconst C 0 dA_fill_0 (by decide) ?_
  refine gh_istore_n C [some (.ref a), some (.int x), some (.int 0), none] dA_fill_1 rfl (Nat.le_of_ble_eq_true rfl) ?_
  refine gh_aload_n C dA_fill_2 rfl ?_
  refine gh_alen C hg rfl dA_fill_3 ?_
  refine gh_istore_n C [some (.ref a), some (.int x), some (.int 0), some (.int (nI n))] dA_fill_4 rfl (Nat.le_of_ble_eq_true rfl) ?_
  have h := loop n 0 (by omega)
  rw [fl_0, gh_uself hg] at h
  exact h
def ext (n : Nat) (f : Nat → Int32) : Nat → Int32 := fun j => if j < n then f j else 0
theorem ext_cpy (n N : Nat) (f : Nat → Int32) : va_cpy f (fun _ => 0) 0 0 n = ext n f := by
  funext j
  simp [va_cpy, ext]
theorem xA_m : Cond.methodLink "java/util/Arrays" 304 Lib.Math.min.name ∈ gh_T := gh_in 237 (by decide +kernel) rfl
theorem xA_l : Cond.methodLink "java/util/Arrays" 150 arraycopyName ∈ gh_T := gh_in 240 (by decide +kernel) rfl
theorem xA_n : Cond.native arraycopyName ∈ gh_T := gh_in 242 (by decide +kernel) rfl
theorem xA_s : Cond.static arraycopyName ∈ gh_T := gh_in 241 (by decide +kernel) rfl
theorem xA_i : Cond.initialized "java/lang/System" ∈ gh_T := gh_in 68 (by decide +kernel) rfl
set_option maxRecDepth 100000 in
set_option maxHeartbeats 4000000 in
theorem c_copyOfB (l : Launch) (d : gh_D) (g : gh_H) {a n : Nat} {K : gh_K} {f : Nat → Int32} (N : Nat) (hg : g K = some (a, .inl (1, n, .inl f))) (hK : K ≠ (61, 0)) (hne : N ≠ n) (hN : n ≤ N ∧ N ≤ 1000000) (hfit : ∀ j, fits .byte (.int (f j)) = true) : gh_C l d mA_copyOf0 (rr 2 1 N) [.ref a, .int (nI N)] g (fun v g1 => ∃ q : Nat, v = some (.ref q) ∧ g1 = gh_u g (61, 0) (q, .inl (1, N, .inl (ext n f)))) := by
  refine gh_of [some (.ref a), some (.int (nI N)), none] (by decide) rfl (Nat.le_of_ble_eq_true rfl) (by simp [Value.category]) (fun z C hQ => ?_)
  show gh_W l d z 0 [some (.ref a), some (.int (nI N)), none] [] g 1 N
  refine gh_iload_n C dA_copyOf0_0 rfl ?_
  refine gh_aload_n C dA_copyOf0_1 rfl ?_
  refine gh_alen C hg rfl dA_copyOf0_2 ?_
  refine gh_icmp_ne C 14 dA_copyOf0_3 (by decide) (fun c3 => ?_) (fun c3 => ?_)
  ·
    refine gh_iload_n C dA_copyOf0_14 rfl ?_
    refine gh_newaB C (61, 0) (N) ⟨rfl, hN.2⟩ 0 0 (by omega) (by omega) dA_copyOf0_15 (fun q nq => ?_)
    refine gh_astore_n C [some (.ref a), some (.int (nI N)), some (.ref q)] dA_copyOf0_17 rfl (Nat.le_of_ble_eq_true rfl) ?_
    refine gh_aload_n C dA_copyOf0_18 rfl ?_
    refine gh_iconst C 0 dA_copyOf0_19 (by decide) ?_
    refine gh_aload_n C dA_copyOf0_20 rfl ?_
    refine gh_iconst C 0 dA_copyOf0_21 (by decide) ?_
    refine gh_aload_n C dA_copyOf0_22 rfl ?_
    refine gh_alen C ((gh_un hK).trans hg) rfl dA_copyOf0_23 ?_
    refine gh_iload_n C dA_copyOf0_24 rfl ?_
    refine gh_min C n N hN.1 (by omega) xA_m ⟨Nat.le_of_ble_eq_true rfl, Nat.le_of_ble_eq_true rfl⟩ (Nat.le_of_ble_eq_true rfl) dA_copyOf0_25 ?_
    refine gh_copy C xA_l xA_n xA_s xA_i ((gh_un hK).trans hg) gh_us rfl rfl (by decide) (by decide) (nI_pos (by omega)) (by rw [nI_clamp (show n < 2 ^ 31 by omega)]; show 0 + n ≤ n; omega) (by rw [nI_clamp (show n < 2 ^ 31 by omega)]; show 0 + n ≤ N; omega) (fun i _ => hfit _) ⟨Nat.le_of_ble_eq_true rfl, Nat.le_of_ble_eq_true rfl⟩ (Nat.le_of_ble_eq_true rfl) dA_copyOf0_28 ?_
    rw [nI_clamp (show n < 2 ^ 31 by omega), show (0 : Int32).toNatClampNeg = 0 from rfl, gh_uu, ext_cpy n N]
    refine gh_aload_n C dA_copyOf0_31 rfl ?_
    refine gh_aret C hQ rfl (Or.inr ⟨_, rfl⟩) (Or.inr ⟨_, rfl⟩) dA_copyOf0_32 ?_
    exact ⟨q, rfl, rfl⟩
  · exact absurd c3 (fun h => hne ((nI_eq (by omega) (by omega)).mp h))
set_option maxRecDepth 100000 in
set_option maxHeartbeats 4000000 in
theorem c_copyOfI (l : Launch) (d : gh_D) (g : gh_H) {a n : Nat} {K : gh_K} {f : Nat → Int32} (N : Nat) (hg : g K = some (a, .inl (0, n, .inl f))) (hK : K ≠ (61, 0)) (hne : N ≠ n) (hN : n ≤ N ∧ N ≤ 1000000) (hfit : ∀ j, fits .int (.int (f j)) = true) : gh_C l d mA_copyOf1 (rr 2 1 N) [.ref a, .int (nI N)] g (fun v g1 => ∃ q : Nat, v = some (.ref q) ∧ g1 = gh_u g (61, 0) (q, .inl (0, N, .inl (ext n f)))) := by
  refine gh_of [some (.ref a), some (.int (nI N)), none] (by decide) rfl (Nat.le_of_ble_eq_true rfl) (by simp [Value.category]) (fun z C hQ => ?_)
  show gh_W l d z 0 [some (.ref a), some (.int (nI N)), none] [] g 1 N
  refine gh_iload_n C dA_copyOf1_0 rfl ?_
  refine gh_aload_n C dA_copyOf1_1 rfl ?_
  refine gh_alen C hg rfl dA_copyOf1_2 ?_
  refine gh_icmp_ne C 14 dA_copyOf1_3 (by decide) (fun c3 => ?_) (fun c3 => ?_)
  ·
    refine gh_iload_n C dA_copyOf1_14 rfl ?_
    refine gh_newaI C (61, 0) (N) ⟨rfl, hN.2⟩ 0 0 (by omega) (by omega) dA_copyOf1_15 (fun q nq => ?_)
    refine gh_astore_n C [some (.ref a), some (.int (nI N)), some (.ref q)] dA_copyOf1_17 rfl (Nat.le_of_ble_eq_true rfl) ?_
    refine gh_aload_n C dA_copyOf1_18 rfl ?_
    refine gh_iconst C 0 dA_copyOf1_19 (by decide) ?_
    refine gh_aload_n C dA_copyOf1_20 rfl ?_
    refine gh_iconst C 0 dA_copyOf1_21 (by decide) ?_
    refine gh_aload_n C dA_copyOf1_22 rfl ?_
    refine gh_alen C ((gh_un hK).trans hg) rfl dA_copyOf1_23 ?_
    refine gh_iload_n C dA_copyOf1_24 rfl ?_
    refine gh_min C n N hN.1 (by omega) xA_m ⟨Nat.le_of_ble_eq_true rfl, Nat.le_of_ble_eq_true rfl⟩ (Nat.le_of_ble_eq_true rfl) dA_copyOf1_25 ?_
    refine gh_copy C xA_l xA_n xA_s xA_i ((gh_un hK).trans hg) gh_us rfl rfl (by decide) (by decide) (nI_pos (by omega)) (by rw [nI_clamp (show n < 2 ^ 31 by omega)]; show 0 + n ≤ n; omega) (by rw [nI_clamp (show n < 2 ^ 31 by omega)]; show 0 + n ≤ N; omega) (fun i _ => hfit _) ⟨Nat.le_of_ble_eq_true rfl, Nat.le_of_ble_eq_true rfl⟩ (Nat.le_of_ble_eq_true rfl) dA_copyOf1_28 ?_
    rw [nI_clamp (show n < 2 ^ 31 by omega), show (0 : Int32).toNatClampNeg = 0 from rfl, gh_uu, ext_cpy n N]
    refine gh_aload_n C dA_copyOf1_31 rfl ?_
    refine gh_aret C hQ rfl (Or.inr ⟨_, rfl⟩) (Or.inr ⟨_, rfl⟩) dA_copyOf1_32 ?_
    exact ⟨q, rfl, rfl⟩
  · exact absurd c3 (fun h => hne ((nI_eq (by omega) (by omega)).mp h))
