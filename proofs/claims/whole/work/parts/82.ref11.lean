/-! copyTree, findRemoves, findUpdates -/
def seg (b i : Nat) (G A : Nat → Int32) : Nat → Int32 := fun j => if b ≤ j ∧ j < b + i then G (j - b) else A j
theorem seg_0 (b : Nat) (G A : Nat → Int32) : seg b 0 G A = A := by
  funext j; simp only [seg]; rw [if_neg (by omega)]
theorem seg_s (b i : Nat) (G A : Nat → Int32) : upd (seg b i G A) (b + i) (G i) = seg b (i + 1) G A := by
  funext j
  simp only [upd, seg]
  by_cases h : j = b + i
  · subst h
    rw [if_pos rfl, if_pos (by omega), show b + i - b = i by omega]
  · rw [if_neg h]
    by_cases h2 : b ≤ j ∧ j < b + i
    · rw [if_pos h2, if_pos (by omega)]
    · rw [if_neg h2, if_neg (by omega)]
theorem seg_lt {b i j : Nat} {G A : Nat → Int32} (h : j < b) : seg b i G A j = A j := by simp only [seg]; rw [if_neg (by omega)]
theorem seg_at {b i j : Nat} {G A : Nat → Int32} (h : j < i) : seg b i G A (b + j) = G j := by simp only [seg]; rw [if_pos (by omega), show b + j - b = j by omega]
theorem ra_at (R : SR) (f : Nat) (F : Nat → Int32) : (ra R f F).2 f = F := by simp [ra]
def f4 (R : SR) (A B C E : Nat → Int32) : SR := ra (ra (ra (ra R 22 A) 23 B) 24 C) 25 E
theorem f4_22 (R : SR) (A B C E X : Nat → Int32) : ra (f4 R A B C E) 22 X = f4 R X B C E := by
  refine sr_ext (fun f => rfl) (fun f => ?_)
  simp only [f4, ra]
  by_cases h : f = 22
  · subst h; simp
  · simp [h]
theorem f4_23 (R : SR) (A B C E X : Nat → Int32) : ra (f4 R A B C E) 23 X = f4 R A X C E := by
  refine sr_ext (fun f => rfl) (fun f => ?_)
  simp only [f4, ra]
  by_cases h : f = 23
  · subst h; simp
  · simp [h]
theorem f4_24 (R : SR) (A B C E X : Nat → Int32) : ra (f4 R A B C E) 24 X = f4 R A B X E := by
  refine sr_ext (fun f => rfl) (fun f => ?_)
  simp only [f4, ra]
  by_cases h : f = 24
  · subst h; simp
  · simp [h]
theorem f4_25 (R : SR) (A B C E X : Nat → Int32) : ra (f4 R A B C E) 25 X = f4 R A B C X := by
  refine sr_ext (fun f => rfl) (fun f => ?_)
  simp only [f4, ra]
  by_cases h : f = 25
  · subst h; simp
  · simp [h]
theorem f4_self (R : SR) : f4 R (R.2 22) (R.2 23) (R.2 24) (R.2 25) = R := by
  refine sr_ext (fun f => rfl) (fun f => ?_)
  simp only [f4, ra]
  by_cases h : f = 25
  · subst h; simp
  · by_cases h1 : f = 24
    · subst h1; simp
    · by_cases h2 : f = 23
      · subst h2; simp
      · by_cases h3 : f = 22
        · subst h3; simp
        · simp [h, h1, h2, h3]
def tu (D : Nat) (K : Nat → Int32) (v : Nat) : Int32 := if v < tW D then K v else 0
def ctA (R : SR) (f e D i : Nat) : SR := f4 (ra R 13 (upd (R.2 13) e (nI D))) (seg (31 * e) i (tk D (rK R f)) (R.2 22)) (seg (31 * e) i (tu D (rU R f)) (R.2 23)) (seg (31 * e) i (fun v => R.2 24 (31 * f + v)) (R.2 24)) (seg (31 * e) i (fun _ => -1) (R.2 25))
def ctR (R : SR) (f e D : Nat) : SR := ra (ctA R f e D 31) 26 (seg (16 * e) 16 (fun v => R.2 26 (16 * f + v)) (R.2 26))
set_option maxRecDepth 100000 in
set_option maxHeartbeats 4000000 in
theorem r_copyTree (l : Launch) (d : gh_D) (g : gh_H) {y : Nat → Nat} {R : SR} (hR : rR g y R) (f e D : Nat) (hf : f < e) (he : e < 60) (hD : R.2 13 f = nI D) (hD4 : D ≤ 4) : gh_C l d mR_copyTree (rr 1 0 0) [.ref (y 0), .int (nI f), .int (nI e)] g (fun v g1 => v = none ∧ rQ g g1 y (ctR R f e D)) := by
  refine gh_of [some (.ref (y 0)), some (.int (nI f)), some (.int (nI e)), none] (by decide) rfl (Nat.le_of_ble_eq_true rfl) (by simp [Value.category]) (fun z C hQ => ?_)
  show gh_W l d z 0 [some (.ref (y 0)), some (.int (nI f)), some (.int (nI e)), none] [] g 0 0
  have h0 := rQ.rf hR
  have hT := tW31 hD4
  have hDT : upd (R.2 13) e (nI D) f = nI D := by simp only [upd, if_neg (show f ≠ e by omega)]; exact hD
  have loopB : ∀ (c i : Nat) (g1 : gh_H), i + c = 16 → rQ g g1 y (ra (ctA R f e D 31) 26 (seg (16 * e) i (fun v => R.2 26 (16 * f + v)) (R.2 26))) → gh_W l d z 132 [some (.ref (y 0)), some (.int (nI f)), some (.int (nI e)), some (.int (nI i))] [] g1 0 0 := by
    intro c
    induction c with
    | zero =>
      intro i g1 hi h1
      have hi : i = 16 := by omega
      subst hi
      refine gh_iload_n C dR_copyTree_132 rfl ?_
      refine gh_bipush C 16 dR_copyTree_133 (by decide) ?_
      refine gh_icmp_ge C 166 dR_copyTree_135 (by decide) (fun c135 => ?_) (fun c135 => ?_)
      ·
        refine gh_vret C hQ rfl dR_copyTree_166 ?_
        exact ⟨rfl, h1⟩
      · exact absurd (nI_le (Nat.le_refl 16) (by omega)) c135
    | succ c ih =>
      intro i g1 hi h1
      refine gh_iload_n C dR_copyTree_132 rfl ?_
      refine gh_bipush C 16 dR_copyTree_133 (by decide) ?_
      refine gh_icmp_ge C 166 dR_copyTree_135 (by decide) (fun c135 => ?_) (fun c135 => ?_)
      · exact absurd c135 (nI_ge (show i < 16 by omega) (by decide))
      ·
        refine gh_aload_n C dR_copyTree_138 rfl ?_
        refine rw_get C h1 fR_77 rfl dR_copyTree_139 ?_
        refine gh_bipush C 16 dR_copyTree_142 (by decide) ?_
        refine gh_iload_n C dR_copyTree_144 rfl ?_
        refine gh_imul C dR_copyTree_145 ?_
        refine gh_ti (nI (16 * e)) (pk_mul 16 e) ?_
        refine gh_iload_n C dR_copyTree_146 rfl ?_
        refine gh_iadd C dR_copyTree_147 ?_
        refine gh_ti (nI (16 * e + i)) (nI_add (16 * e) i) ?_
        refine gh_aload_n C dR_copyTree_148 rfl ?_
        refine rw_get C h1 fR_77 rfl dR_copyTree_149 ?_
        refine gh_bipush C 16 dR_copyTree_152 (by decide) ?_
        refine gh_iload_n C dR_copyTree_154 rfl ?_
        refine gh_imul C dR_copyTree_155 ?_
        refine gh_ti (nI (16 * f)) (pk_mul 16 f) ?_
        refine gh_iload_n C dR_copyTree_156 rfl ?_
        refine gh_iadd C dR_copyTree_157 ?_
        refine gh_ti (nI (16 * f + i)) (nI_add (16 * f) i) ?_
        refine rw_ild C h1 26 960 ⟨rfl, rfl, rfl, by decide⟩ (16 * f + i) rfl (by omega) dR_copyTree_158 ?_
        refine gh_ti (R.2 26 (16 * f + i)) (by rw [ra_at]; exact seg_lt (by omega)) ?_
        refine rw_ist C h1 26 960 ⟨rfl, rfl, rfl, by decide⟩ (16 * e + i) rfl (by omega) dR_copyTree_159 (fun g101 h101 => ?_)
        have h101 : rQ g g101 y (ra (ra (ctA R f e D 31) 26 (seg (16 * e) i (fun v => R.2 26 (16 * f + v)) (R.2 26))) 26 (upd ((ra (ctA R f e D 31) 26 (seg (16 * e) i (fun v => R.2 26 (16 * f + v)) (R.2 26))).2 26) (16 * e + i) (R.2 26 (16 * f + i)))) := h101
        refine gh_iinc C (nI (i + 1)) [some (.ref (y 0)), some (.int (nI f)), some (.int (nI e)), some (.int (nI (i + 1)))] dR_copyTree_160 rfl (gh_inc i) rfl ?_
        refine gh_goto C 132 dR_copyTree_163 (by decide) ?_
        exact ih (i + 1) _ (by omega) (by rw [← seg_s, ← ra_ra (ctA R f e D 31) 26 (seg (16 * e) i (fun v => R.2 26 (16 * f + v)) (R.2 26))]; exact h101)
  have loopA : ∀ (c i : Nat) (g1 : gh_H), i + c = 31 → rQ g g1 y (ctA R f e D i) → gh_W l d z 14 [some (.ref (y 0)), some (.int (nI f)), some (.int (nI e)), some (.int (nI i))] [] g1 0 0 := by
    intro c
    induction c with
    | zero =>
      intro i g1 hi h1
      have hi : i = 31 := by omega
      subst hi
      refine gh_iload_n C dR_copyTree_14 rfl ?_
      refine gh_bipush C 31 dR_copyTree_15 (by decide) ?_
      refine gh_icmp_ge C 130 dR_copyTree_17 (by decide) (fun c17 => ?_) (fun c17 => ?_)
      ·
        refine gh_iconst C 0 dR_copyTree_130 (by decide) ?_
        refine gh_istore_n C [some (.ref (y 0)), some (.int (nI f)), some (.int (nI e)), some (.int 0)] dR_copyTree_131 rfl (Nat.le_of_ble_eq_true rfl) ?_
        exact loopB 16 0 _ (by omega) (by rw [seg_0, show R.2 26 = (ctA R f e D 31).2 26 from rfl, ra_self]; exact h1)
      · exact absurd (nI_le (Nat.le_refl 31) (by omega)) c17
    | succ c ih =>
      intro i g1 hi h1
      have hi31 : i < 31 := by omega
      obtain ⟨T, eT⟩ : ∃ T, T = ra R 13 (upd (R.2 13) e (nI D)) := ⟨_, rfl⟩
      obtain ⟨A1, eA1⟩ : ∃ A, A = seg (31 * e) (i + 1) (tk D (rK R f)) (R.2 22) := ⟨_, rfl⟩
      obtain ⟨B1, eB1⟩ : ∃ A, A = seg (31 * e) (i + 1) (tu D (rU R f)) (R.2 23) := ⟨_, rfl⟩
      obtain ⟨A0, eA0⟩ : ∃ A, A = seg (31 * e) i (tk D (rK R f)) (R.2 22) := ⟨_, rfl⟩
      obtain ⟨B0, eB0⟩ : ∃ A, A = seg (31 * e) i (tu D (rU R f)) (R.2 23) := ⟨_, rfl⟩
      obtain ⟨C0, eC0⟩ : ∃ A, A = seg (31 * e) i (fun v => R.2 24 (31 * f + v)) (R.2 24) := ⟨_, rfl⟩
      obtain ⟨E0, eE0⟩ : ∃ A, A = seg (31 * e) i (fun _ => -1) (R.2 25) := ⟨_, rfl⟩
      have hT13 : ∀ A B C E : Nat → Int32, (f4 T A B C E).2 13 f = nI D := fun A B C E => by rw [eT]; exact hDT
      have tail2 : ∀ g2 : gh_H, rQ g g2 y (f4 T A1 B1 C0 E0) → gh_W l d z 90 [some (.ref (y 0)), some (.int (nI f)), some (.int (nI e)), some (.int (nI i))] [] g2 0 0 := by
        intro g2 h2
        refine gh_aload_n C dR_copyTree_90 rfl ?_
        refine rw_get C h2 fR_71 rfl dR_copyTree_91 ?_
        refine gh_bipush C 31 dR_copyTree_94 (by decide) ?_
        refine gh_iload_n C dR_copyTree_96 rfl ?_
        refine gh_imul C dR_copyTree_97 ?_
        refine gh_ti (nI (31 * e)) (pk_mul 31 e) ?_
        refine gh_iload_n C dR_copyTree_98 rfl ?_
        refine gh_iadd C dR_copyTree_99 ?_
        refine gh_ti (nI (31 * e + i)) (nI_add (31 * e) i) ?_
        refine gh_aload_n C dR_copyTree_100 rfl ?_
        refine rw_get C h2 fR_71 rfl dR_copyTree_101 ?_
        refine gh_bipush C 31 dR_copyTree_104 (by decide) ?_
        refine gh_iload_n C dR_copyTree_106 rfl ?_
        refine gh_imul C dR_copyTree_107 ?_
        refine gh_ti (nI (31 * f)) (pk_mul 31 f) ?_
        refine gh_iload_n C dR_copyTree_108 rfl ?_
        refine gh_iadd C dR_copyTree_109 ?_
        refine gh_ti (nI (31 * f + i)) (nI_add (31 * f) i) ?_
        refine rw_ild C h2 24 1860 ⟨rfl, rfl, rfl, by decide⟩ (31 * f + i) rfl (by omega) dR_copyTree_110 ?_
        refine gh_ti (R.2 24 (31 * f + i)) (by rw [show (f4 T A1 B1 C0 E0).2 24 = C0 from rfl, eC0]; exact seg_lt (by omega)) ?_
        refine rw_ist C h2 24 1860 ⟨rfl, rfl, rfl, by decide⟩ (31 * e + i) rfl (by omega) dR_copyTree_111 (fun g101 h101 => ?_)
        have h101 : rQ g g101 y (ra (f4 T A1 B1 C0 E0) 24 (upd ((f4 T A1 B1 C0 E0).2 24) (31 * e + i) (R.2 24 (31 * f + i)))) := h101
        refine gh_aload_n C dR_copyTree_112 rfl ?_
        refine rw_get C h101 fR_74 rfl dR_copyTree_113 ?_
        refine gh_bipush C 31 dR_copyTree_116 (by decide) ?_
        refine gh_iload_n C dR_copyTree_118 rfl ?_
        refine gh_imul C dR_copyTree_119 ?_
        refine gh_ti (nI (31 * e)) (pk_mul 31 e) ?_
        refine gh_iload_n C dR_copyTree_120 rfl ?_
        refine gh_iadd C dR_copyTree_121 ?_
        refine gh_ti (nI (31 * e + i)) (nI_add (31 * e) i) ?_
        refine gh_iconst C (-1) dR_copyTree_122 (by decide) ?_
        refine rw_ist C h101 25 1860 ⟨rfl, rfl, rfl, by decide⟩ (31 * e + i) rfl (by omega) dR_copyTree_123 (fun g102 h102 => ?_)
        have h102 : rQ g g102 y (ra (ra (f4 T A1 B1 C0 E0) 24 (upd ((f4 T A1 B1 C0 E0).2 24) (31 * e + i) (R.2 24 (31 * f + i)))) 25 (upd ((f4 T A1 B1 C0 E0).2 25) (31 * e + i) (-1))) := h102
        refine gh_iinc C (nI (i + 1)) [some (.ref (y 0)), some (.int (nI f)), some (.int (nI e)), some (.int (nI (i + 1)))] dR_copyTree_124 rfl (gh_inc i) rfl ?_
        refine gh_goto C 14 dR_copyTree_127 (by decide) ?_
        refine ih (i + 1) _ (by omega) ?_
        have h9 : rQ g _ y (ra (ra (f4 T A1 B1 C0 E0) 24 (upd C0 (31 * e + i) (R.2 24 (31 * f + i)))) 25 (upd E0 (31 * e + i) (-1))) := h102
        rw [f4_24, f4_25, eC0, eE0, seg_s (31 * e) i (fun v => R.2 24 (31 * f + v)), seg_s (31 * e) i (fun _ => -1)] at h9
        unfold ctA
        rw [← eT, ← eA1, ← eB1]
        exact h9
      have tail1 : ∀ g2 : gh_H, rQ g g2 y (f4 T A1 B0 C0 E0) → gh_W l d z 55 [some (.ref (y 0)), some (.int (nI f)), some (.int (nI e)), some (.int (nI i))] [] g2 0 0 := by
        intro g2 h2
        refine gh_aload_n C dR_copyTree_55 rfl ?_
        refine rw_get C h2 fR_68 rfl dR_copyTree_56 ?_
        refine gh_bipush C 31 dR_copyTree_59 (by decide) ?_
        refine gh_iload_n C dR_copyTree_61 rfl ?_
        refine gh_imul C dR_copyTree_62 ?_
        refine gh_ti (nI (31 * e)) (pk_mul 31 e) ?_
        refine gh_iload_n C dR_copyTree_63 rfl ?_
        refine gh_iadd C dR_copyTree_64 ?_
        refine gh_ti (nI (31 * e + i)) (nI_add (31 * e) i) ?_
        refine gh_iload_n C dR_copyTree_65 rfl ?_
        refine gh_aload_n C dR_copyTree_66 rfl ?_
        refine gh_iload_n C dR_copyTree_67 rfl ?_
        refine gh_callV C [.int (nI f)] (r_width l d _ h2.1 f D (by omega) (hT13 _ _ _ _) hD4) lR_192 wR_width vR_width h2.1.1 rfl rfl rfl (Nat.le_of_ble_eq_true rfl) ⟨Nat.le_of_ble_eq_true rfl, Nat.le_of_ble_eq_true rfl⟩ (Nat.le_of_ble_eq_true rfl) (Nat.le_of_ble_eq_true rfl) dR_copyTree_68 (fun v101 g101 k101 => ?_)
        obtain ⟨rfl, e101⟩ := k101
        subst g101
        refine gh_icmp_ge C 88 dR_copyTree_71 (by decide) (fun c71 => ?_) (fun c71 => ?_)
        ·
          have hg : ¬ i < tW D := fun h => absurd c71 (nI_ge h (by omega))
          refine gh_iconst C 0 dR_copyTree_88 (by decide) ?_
          refine rw_ist C h2 23 1860 ⟨rfl, rfl, rfl, by decide⟩ (31 * e + i) rfl (by omega) dR_copyTree_89 (fun g102 h102 => ?_)
          have h102 : rQ g g102 y (ra (f4 T A1 B0 C0 E0) 23 (upd ((f4 T A1 B0 C0 E0).2 23) (31 * e + i) 0)) := h102
          refine tail2 _ ?_
          rw [eB1, ← seg_s, ← eB0, ← f4_23 T A1 B0 C0 E0]
          first
            | (rw [show tu D (rU R f) i = R.2 23 (31 * f + i) by simp only [tu, if_pos hg]; rfl]; exact h102)
            | (rw [show tu D (rU R f) i = 0 by simp only [tu, if_neg hg]]; exact h102)
        ·
          have hg : i < tW D := by
            by_cases h : i < tW D
            · exact h
            · exact absurd (nI_le (by omega) (by omega)) c71
          refine gh_aload_n C dR_copyTree_74 rfl ?_
          refine rw_get C h2 fR_68 rfl dR_copyTree_75 ?_
          refine gh_bipush C 31 dR_copyTree_78 (by decide) ?_
          refine gh_iload_n C dR_copyTree_80 rfl ?_
          refine gh_imul C dR_copyTree_81 ?_
          refine gh_ti (nI (31 * f)) (pk_mul 31 f) ?_
          refine gh_iload_n C dR_copyTree_82 rfl ?_
          refine gh_iadd C dR_copyTree_83 ?_
          refine gh_ti (nI (31 * f + i)) (nI_add (31 * f) i) ?_
          refine rw_ild C h2 23 1860 ⟨rfl, rfl, rfl, by decide⟩ (31 * f + i) rfl (by omega) dR_copyTree_84 ?_
          refine gh_ti (R.2 23 (31 * f + i)) (by rw [show (f4 T A1 B0 C0 E0).2 23 = B0 from rfl, eB0]; exact seg_lt (by omega)) ?_
          refine gh_goto C 89 dR_copyTree_85 (by decide) ?_
          refine rw_ist C h2 23 1860 ⟨rfl, rfl, rfl, by decide⟩ (31 * e + i) rfl (by omega) dR_copyTree_89 (fun g103 h103 => ?_)
          have h103 : rQ g g103 y (ra (f4 T A1 B0 C0 E0) 23 (upd ((f4 T A1 B0 C0 E0).2 23) (31 * e + i) (R.2 23 (31 * f + i)))) := h103
          refine tail2 _ ?_
          rw [eB1, ← seg_s, ← eB0, ← f4_23 T A1 B0 C0 E0]
          first
            | (rw [show tu D (rU R f) i = R.2 23 (31 * f + i) by simp only [tu, if_pos hg]; rfl]; exact h103)
            | (rw [show tu D (rU R f) i = 0 by simp only [tu, if_neg hg]]; exact h103)
      have h1 : rQ g g1 y (f4 T A0 B0 C0 E0) := by
        rw [eT, eA0, eB0, eC0, eE0]; exact h1
      refine gh_iload_n C dR_copyTree_14 rfl ?_
      refine gh_bipush C 31 dR_copyTree_15 (by decide) ?_
      refine gh_icmp_ge C 130 dR_copyTree_17 (by decide) (fun c17 => ?_) (fun c17 => ?_)
      · exact absurd c17 (nI_ge hi31 (by decide))
      ·
        refine gh_aload_n C dR_copyTree_20 rfl ?_
        refine rw_get C h1 fR_65 rfl dR_copyTree_21 ?_
        refine gh_bipush C 31 dR_copyTree_24 (by decide) ?_
        refine gh_iload_n C dR_copyTree_26 rfl ?_
        refine gh_imul C dR_copyTree_27 ?_
        refine gh_ti (nI (31 * e)) (pk_mul 31 e) ?_
        refine gh_iload_n C dR_copyTree_28 rfl ?_
        refine gh_iadd C dR_copyTree_29 ?_
        refine gh_ti (nI (31 * e + i)) (nI_add (31 * e) i) ?_
        refine gh_iload_n C dR_copyTree_30 rfl ?_
        refine gh_aload_n C dR_copyTree_31 rfl ?_
        refine gh_iload_n C dR_copyTree_32 rfl ?_
        refine gh_callV C [.int (nI f)] (r_width l d _ h1.1 f D (by omega) (hT13 _ _ _ _) hD4) lR_192 wR_width vR_width h1.1.1 rfl rfl rfl (Nat.le_of_ble_eq_true rfl) ⟨Nat.le_of_ble_eq_true rfl, Nat.le_of_ble_eq_true rfl⟩ (Nat.le_of_ble_eq_true rfl) (Nat.le_of_ble_eq_true rfl) dR_copyTree_33 (fun v101 g101 k101 => ?_)
        obtain ⟨rfl, e101⟩ := k101
        subst g101
        refine gh_icmp_ge C 53 dR_copyTree_36 (by decide) (fun c36 => ?_) (fun c36 => ?_)
        ·
          have hg : ¬ i < tW D := fun h => absurd c36 (nI_ge h (by omega))
          refine gh_iconst C (-1) dR_copyTree_53 (by decide) ?_
          refine rw_ist C h1 22 1860 ⟨rfl, rfl, rfl, by decide⟩ (31 * e + i) rfl (by omega) dR_copyTree_54 (fun g102 h102 => ?_)
          have h102 : rQ g g102 y (ra (f4 T A0 B0 C0 E0) 22 (upd ((f4 T A0 B0 C0 E0).2 22) (31 * e + i) (-1))) := h102
          refine tail1 _ ?_
          rw [eA1, ← seg_s, ← eA0, ← f4_22 T A0 B0 C0 E0]
          first
            | (rw [show tk D (rK R f) i = R.2 22 (31 * f + i) by simp only [tk, if_pos hg]; rfl]; exact h102)
            | (rw [show tk D (rK R f) i = -1 by simp only [tk, if_neg hg]]; exact h102)
        ·
          have hg : i < tW D := by
            by_cases h : i < tW D
            · exact h
            · exact absurd (nI_le (by omega) (by omega)) c36
          refine gh_aload_n C dR_copyTree_39 rfl ?_
          refine rw_get C h1 fR_65 rfl dR_copyTree_40 ?_
          refine gh_bipush C 31 dR_copyTree_43 (by decide) ?_
          refine gh_iload_n C dR_copyTree_45 rfl ?_
          refine gh_imul C dR_copyTree_46 ?_
          refine gh_ti (nI (31 * f)) (pk_mul 31 f) ?_
          refine gh_iload_n C dR_copyTree_47 rfl ?_
          refine gh_iadd C dR_copyTree_48 ?_
          refine gh_ti (nI (31 * f + i)) (nI_add (31 * f) i) ?_
          refine rw_ild C h1 22 1860 ⟨rfl, rfl, rfl, by decide⟩ (31 * f + i) rfl (by omega) dR_copyTree_49 ?_
          refine gh_ti (R.2 22 (31 * f + i)) (by rw [show (f4 T A0 B0 C0 E0).2 22 = A0 from rfl, eA0]; exact seg_lt (by omega)) ?_
          refine gh_goto C 54 dR_copyTree_50 (by decide) ?_
          refine rw_ist C h1 22 1860 ⟨rfl, rfl, rfl, by decide⟩ (31 * e + i) rfl (by omega) dR_copyTree_54 (fun g103 h103 => ?_)
          have h103 : rQ g g103 y (ra (f4 T A0 B0 C0 E0) 22 (upd ((f4 T A0 B0 C0 E0).2 22) (31 * e + i) (R.2 22 (31 * f + i)))) := h103
          refine tail1 _ ?_
          rw [eA1, ← seg_s, ← eA0, ← f4_22 T A0 B0 C0 E0]
          first
            | (rw [show tk D (rK R f) i = R.2 22 (31 * f + i) by simp only [tk, if_pos hg]; rfl]; exact h103)
            | (rw [show tk D (rK R f) i = -1 by simp only [tk, if_neg hg]]; exact h103)
  refine gh_aload_n C dR_copyTree_0 rfl ?_
  refine rw_get C h0 fR_38 rfl dR_copyTree_1 ?_
  refine gh_iload_n C dR_copyTree_4 rfl ?_
  refine gh_aload_n C dR_copyTree_5 rfl ?_
  refine rw_get C h0 fR_38 rfl dR_copyTree_6 ?_
  refine gh_iload_n C dR_copyTree_9 rfl ?_
  refine rw_ild C h0 13 60 ⟨rfl, rfl, rfl, by decide⟩ (f) rfl (by omega) dR_copyTree_10 ?_
  refine gh_ti (nI D) hD ?_
  refine rw_ist C h0 13 60 ⟨rfl, rfl, rfl, by decide⟩ (e) rfl (by omega) dR_copyTree_11 (fun g101 h101 => ?_)
  have h101 : rQ g g101 y (ra R 13 (upd (R.2 13) e (nI D))) := h101
  refine gh_iconst C 0 dR_copyTree_12 (by decide) ?_
  refine gh_istore_n C [some (.ref (y 0)), some (.int (nI f)), some (.int (nI e)), some (.int 0)] dR_copyTree_13 rfl (Nat.le_of_ble_eq_true rfl) ?_
  exact loopA 31 0 _ (by omega) (by unfold ctA; rw [seg_0, seg_0, seg_0, seg_0]; rw [← f4_self (ra R 13 (upd (R.2 13) e (nI D)))] at h101; exact h101)
abbrev fmQ (R : SR) (f D a i : Nat) : Prop := R.2 43 i = 1 ∧ (R.2 45 i).toNatClampNeg < 2 ^ D ∧ R.2 22 (31 * f + 2 * (R.2 45 i).toNatClampNeg) ≠ -1 ∧ (R.2 45 i).toNatClampNeg ≠ a
def fmM (R : SR) (f D a : Nat) (x : Int32) : Nat → Int32
  | 0 => x
  | i + 1 => if fmQ R f D a i then fmM R f D a x i ||| bitN (R.2 45 i).toNatClampNeg else fmM R f D a x i
theorem ra_ri (R : SR) (f k v : Nat) (F : Nat → Int32) : ra (ri R k v) f F = ri (ra R f F) k v := rfl
set_option maxRecDepth 100000 in
set_option maxHeartbeats 4000000 in
theorem r_findRemoves (l : Launch) (d : gh_D) (g : gh_H) {y : Nat → Nat} {R : SR} (hR : rR g y R) (e D a : Nat) (he : e < 60) (he1 : 1 ≤ e) (hD : R.2 13 (e - 1) = nI D) (hD4 : D ≤ 4) (ha : a < 16) (hW : R.1 42 ≤ 20) (hpr : ∀ i, i < R.1 42 → R.2 43 i = 1 → ∃ b, b < 16 ∧ R.2 45 i = nI b) : gh_C l d mR_findRemoves (rr 0 0 0) [.ref (y 0), .int (nI e), .int (nI a)] g (fun v g1 => v = none ∧ rQ g g1 y (ra R 17 (upd (R.2 17) e (fmM R (e - 1) D a (R.2 17 e) (R.1 42))))) := by
  refine gh_of [some (.ref (y 0)), some (.int (nI e)), some (.int (nI a)), none, none] (by decide) rfl (Nat.le_of_ble_eq_true rfl) (by simp [Value.category]) (fun z C hQ => ?_)
  show gh_W l d z 0 [some (.ref (y 0)), some (.int (nI e)), some (.int (nI a)), none, none] [] g 0 0
  have h0 := rQ.rf hR
  have hp := p2D hD4
  have loop : ∀ (c i : Nat) (x4 : Option Value) (g1 : gh_H), i + c = R.1 42 → rQ g g1 y (ra R 17 (upd (R.2 17) e (fmM R (e - 1) D a (R.2 17 e) i))) → gh_W l d z 2 [some (.ref (y 0)), some (.int (nI e)), some (.int (nI a)), some (.int (nI i)), x4] [] g1 0 0 := by
    intro c
    induction c with
    | zero =>
      intro i x4 g1 hi h1
      have hi : i = R.1 42 := by omega
      subst hi
      refine gh_iload_n C dR_findRemoves_2 rfl ?_
      refine gh_aload_n C dR_findRemoves_3 rfl ?_
      refine rw_get C h1 fR_195 rfl dR_findRemoves_4 ?_
      refine gh_ti (nI (R.1 42)) rfl ?_
      refine gh_icmp_ge C 88 dR_findRemoves_7 (by decide) (fun c7 => ?_) (fun c7 => ?_)
      ·
        refine gh_vret C hQ rfl dR_findRemoves_88 ?_
        exact ⟨rfl, h1⟩
      · exact absurd (nI_le (Nat.le_refl (R.1 42)) (by omega)) c7
    | succ c ih =>
      intro i x4 g1 hi h1
      have hlt : i < R.1 42 := by omega
      obtain ⟨M, eM⟩ : ∃ M, M = fmM R (e - 1) D a (R.2 17 e) i := ⟨_, rfl⟩
      rw [← eM] at h1
      have inc : ∀ (M1 : Int32) (x4 : Option Value) (g2 : gh_H), M1 = fmM R (e - 1) D a (R.2 17 e) (i + 1) → rQ g g2 y (ra R 17 (upd (R.2 17) e M1)) → gh_W l d z 82 [some (.ref (y 0)), some (.int (nI e)), some (.int (nI a)), some (.int (nI i)), x4] [] g2 0 0 := by
        intro M1 x4 g2 e1 h2
        refine gh_iinc C (nI (i + 1)) [some (.ref (y 0)), some (.int (nI e)), some (.int (nI a)), some (.int (nI (i + 1))), x4] dR_findRemoves_82 rfl (gh_inc i) rfl ?_
        refine gh_goto C 2 dR_findRemoves_85 (by decide) ?_
        exact ih (i + 1) x4 g2 (by omega) (by rw [← e1]; exact h2)
      have eM1 : fmM R (e - 1) D a (R.2 17 e) (i + 1) = if fmQ R (e - 1) D a i then M ||| bitN (R.2 45 i).toNatClampNeg else M := by rw [eM]; rfl
      refine gh_iload_n C dR_findRemoves_2 rfl ?_
      refine gh_aload_n C dR_findRemoves_3 rfl ?_
      refine rw_get C h1 fR_195 rfl dR_findRemoves_4 ?_
      refine gh_ti (nI (R.1 42)) rfl ?_
      refine gh_icmp_ge C 88 dR_findRemoves_7 (by decide) (fun c7 => ?_) (fun c7 => ?_)
      · exact absurd c7 (nI_ge hlt (by omega))
      ·
        refine gh_aload_n C dR_findRemoves_10 rfl ?_
        refine rw_get C h1 fR_128 rfl dR_findRemoves_11 ?_
        refine gh_iload_n C dR_findRemoves_14 rfl ?_
        refine rw_ild C h1 45 20 ⟨rfl, rfl, rfl, by decide⟩ (i) rfl (by omega) dR_findRemoves_15 ?_
        refine gh_ti (R.2 45 i) rfl ?_
        refine gh_istore C [some (.ref (y 0)), some (.int (nI e)), some (.int (nI a)), some (.int (nI i)), some (.int (R.2 45 i))] dR_findRemoves_16 rfl (Nat.le_of_ble_eq_true rfl) ?_
        refine gh_aload_n C dR_findRemoves_18 rfl ?_
        refine rw_get C h1 fR_122 rfl dR_findRemoves_19 ?_
        refine gh_iload_n C dR_findRemoves_22 rfl ?_
        refine rw_ild C h1 43 20 ⟨rfl, rfl, rfl, by decide⟩ (i) rfl (by omega) dR_findRemoves_23 ?_
        refine gh_ti (R.2 43 i) rfl ?_
        refine gh_iconst C 1 dR_findRemoves_24 (by decide) ?_
        refine gh_icmp_ne C 82 dR_findRemoves_25 (by decide) (fun c25 => ?_) (fun c25 => ?_)
        · exact inc M _ _ (by rw [eM1, if_neg (fun hq => absurd hq.1 c25)]) h1
        ·
          obtain ⟨b, hb, hpb⟩ := hpr i hlt c25
          have hcl : (R.2 45 i).toNatClampNeg = b := by rw [hpb]; exact nI_clamp (by omega)
          rw [hpb]
          refine gh_iload C dR_findRemoves_28 rfl ?_
          refine gh_iconst C 1 dR_findRemoves_30 (by decide) ?_
          refine gh_aload_n C dR_findRemoves_31 rfl ?_
          refine rw_get C h1 fR_38 rfl dR_findRemoves_32 ?_
          refine gh_iload_n C dR_findRemoves_35 rfl ?_
          refine gh_iconst C 1 dR_findRemoves_36 (by decide) ?_
          refine gh_isub C dR_findRemoves_37 ?_
          refine gh_ti (nI (e - 1)) (pred_n he1) ?_
          refine rw_ild C h1 13 60 ⟨rfl, rfl, rfl, by decide⟩ (e - 1) rfl (by omega) dR_findRemoves_38 ?_
          refine gh_ti (nI D) hD ?_
          refine gh_ishl C dR_findRemoves_39 ?_
          refine gh_ti (nI (2 ^ D)) (sh1h D hD4) ?_
          refine gh_icmp_ge C 82 dR_findRemoves_40 (by decide) (fun c40 => ?_) (fun c40 => ?_)
          · exact inc M _ _ (by rw [eM1, if_neg (fun hq => by unfold fmQ at hq; rw [hcl] at hq; exact nI_ge hq.2.1 (by omega) c40)]) h1
          ·
            have h40 : b < 2 ^ D := by
              by_cases h : b < 2 ^ D
              · exact h
              · exact absurd (nI_le (by omega) (by omega)) c40
            refine gh_aload_n C dR_findRemoves_43 rfl ?_
            refine rw_get C h1 fR_65 rfl dR_findRemoves_44 ?_
            refine gh_bipush C 31 dR_findRemoves_47 (by decide) ?_
            refine gh_iload_n C dR_findRemoves_49 rfl ?_
            refine gh_iconst C 1 dR_findRemoves_50 (by decide) ?_
            refine gh_isub C dR_findRemoves_51 ?_
            refine gh_ti (nI (e - 1)) (pred_n he1) ?_
            refine gh_imul C dR_findRemoves_52 ?_
            refine gh_ti (nI (31 * (e - 1))) (pk_mul 31 (e - 1)) ?_
            refine gh_iconst C 2 dR_findRemoves_53 (by decide) ?_
            refine gh_iload C dR_findRemoves_54 rfl ?_
            refine gh_imul C dR_findRemoves_56 ?_
            refine gh_ti (nI (2 * b)) (pk_mul 2 b) ?_
            refine gh_iadd C dR_findRemoves_57 ?_
            refine gh_ti (nI (31 * (e - 1) + 2 * b)) (nI_add (31 * (e - 1)) (2 * b)) ?_
            refine rw_ild C h1 22 1860 ⟨rfl, rfl, rfl, by decide⟩ (31 * (e - 1) + 2 * b) rfl (by omega) dR_findRemoves_58 ?_
            refine gh_ti (R.2 22 (31 * (e - 1) + 2 * b)) rfl ?_
            refine gh_iconst C (-1) dR_findRemoves_59 (by decide) ?_
            refine gh_icmp_eq C 82 dR_findRemoves_60 (by decide) (fun c60 => ?_) (fun c60 => ?_)
            · exact inc M _ _ (by rw [eM1, if_neg (fun hq => by unfold fmQ at hq; rw [hcl] at hq; exact hq.2.2.1 c60)]) h1
            ·
              refine gh_iload C dR_findRemoves_63 rfl ?_
              refine gh_iload_n C dR_findRemoves_65 rfl ?_
              refine gh_icmp_eq C 82 dR_findRemoves_66 (by decide) (fun c66 => ?_) (fun c66 => ?_)
              · exact inc M _ _ (by rw [eM1, if_neg (fun hq => by unfold fmQ at hq; rw [hcl] at hq; exact hq.2.2.2 ((nI_eq (by omega) (by omega)).mp c66))]) h1
              ·
                refine gh_aload_n C dR_findRemoves_69 rfl ?_
                refine rw_get C h1 fR_50 rfl dR_findRemoves_70 ?_
                refine gh_iload_n C dR_findRemoves_73 rfl ?_
                refine gh_dup2 C dR_findRemoves_74 rfl rfl ?_
                refine rw_ild C h1 17 60 ⟨rfl, rfl, rfl, by decide⟩ (e) rfl (by omega) dR_findRemoves_75 ?_
                refine gh_ti (M) (by simp [ra, upd]) ?_
                refine gh_iconst C 1 dR_findRemoves_76 (by decide) ?_
                refine gh_iload C dR_findRemoves_77 rfl ?_
                refine gh_ishl C dR_findRemoves_79 ?_
                refine gh_ior C dR_findRemoves_80 ?_
                refine rw_ist C h1 17 60 ⟨rfl, rfl, rfl, by decide⟩ (e) rfl (by omega) dR_findRemoves_81 (fun g101 h101 => ?_)
                have h101 : rQ g g101 y (ra (ra R 17 (upd (R.2 17) e M)) 17 (upd ((ra R 17 (upd (R.2 17) e M)).2 17) e (M ||| (1 <<< ((nI b) &&& 31))))) := h101
                have hq : fmQ R (e - 1) D a i := ⟨c25, by rw [hcl]; exact h40, by rw [hcl]; exact c60, by rw [hcl]; exact fun h => c66 (by rw [h])⟩
                refine inc (M ||| bitN b) _ _ (by rw [eM1, if_pos hq, hcl]) ?_
                have h9 := h101
                rw [ra_ra, ra_at, upd_upd] at h9
                exact h9
  refine gh_iconst C 0 dR_findRemoves_0 (by decide) ?_
  refine gh_istore_n C [some (.ref (y 0)), some (.int (nI e)), some (.int (nI a)), some (.int 0), none] dR_findRemoves_1 rfl (Nat.le_of_ble_eq_true rfl) ?_
  exact loop (R.1 42) 0 _ g (by omega) (by rw [show fmM R (e - 1) D a (R.2 17 e) 0 = R.2 17 e from rfl, upd_self, ra_self]; exact h0)
abbrev fuQ (R : SR) (e a b i : Nat) : Prop := R.2 43 i = 2 ∧ b ≠ a ∧ R.2 17 e &&& bitN b = 0
def lfp (R : SR) (i : Nat) : Nat := (R.2 28 (R.2 44 i).toNatClampNeg).toNatClampNeg
def fuM (R : SR) (e a : Nat) (x : Int32) (F : Nat → Int32) : Nat → Int32 × (Nat → Int32)
  | 0 => (x, F)
  | i + 1 => if fuQ R e a (lfp R i) i then ((fuM R e a x F i).1 ||| bitN (lfp R i), upd (fuM R e a x F i).2 (lfp R i) (R.2 45 i)) else fuM R e a x F i
def d2 (R : SR) (A B : Nat → Int32) : SR := ra (ra R 18 A) 51 B
theorem d2_18 (R : SR) (A B X : Nat → Int32) : ra (d2 R A B) 18 X = d2 R X B := by
  refine sr_ext (fun f => rfl) (fun f => ?_)
  simp only [d2, ra]
  by_cases h : f = 18
  · subst h; simp
  · simp [h]
theorem d2_51 (R : SR) (A B X : Nat → Int32) : ra (d2 R A B) 51 X = d2 R A X := by
  refine sr_ext (fun f => rfl) (fun f => ?_)
  simp only [d2, ra]
  by_cases h : f = 51
  · subst h; simp
  · simp [h]
theorem d2_self (R : SR) : d2 R (R.2 18) (R.2 51) = R := by unfold d2; rw [ra_self, ra_self]
def fuR (R : SR) (e a : Nat) (i : Nat) : SR := d2 R (upd (R.2 18) e (fuM R e a (R.2 18 e) (R.2 51) i).1) (fuM R e a (R.2 18 e) (R.2 51) i).2
set_option maxRecDepth 100000 in
set_option maxHeartbeats 4000000 in
theorem r_findUpdates (l : Launch) (d : gh_D) (g : gh_H) {y : Nat → Nat} {R : SR} (hR : rR g y R) (e a : Nat) (he : e < 60) (ha : a < 16) (hW : R.1 42 ≤ 20) (hpp : ∀ i, i < R.1 42 → ∃ m, m < 16 ∧ R.2 44 i = nI m) (hpr : ∀ i, i < R.1 42 → R.2 43 i = 2 → ∃ b, b < 16 ∧ R.2 28 (R.2 44 i).toNatClampNeg = nI b) : gh_C l d mR_findUpdates (rr 0 0 0) [.ref (y 0), .int (nI e), .int (nI a)] g (fun v g1 => v = none ∧ rQ g g1 y (fuR R e a (R.1 42))) := by
  refine gh_of [some (.ref (y 0)), some (.int (nI e)), some (.int (nI a)), none, none] (by decide) rfl (Nat.le_of_ble_eq_true rfl) (by simp [Value.category]) (fun z C hQ => ?_)
  show gh_W l d z 0 [some (.ref (y 0)), some (.int (nI e)), some (.int (nI a)), none, none] [] g 0 0
  have h0 := rQ.rf hR
  have loop : ∀ (c i : Nat) (x4 : Option Value) (g1 : gh_H), i + c = R.1 42 → rQ g g1 y (fuR R e a i) → gh_W l d z 2 [some (.ref (y 0)), some (.int (nI e)), some (.int (nI a)), some (.int (nI i)), x4] [] g1 0 0 := by
    intro c
    induction c with
    | zero =>
      intro i x4 g1 hi h1
      have hi : i = R.1 42 := by omega
      subst hi
      refine gh_iload_n C dR_findUpdates_2 rfl ?_
      refine gh_aload_n C dR_findUpdates_3 rfl ?_
      refine rw_get C h1 fR_195 rfl dR_findUpdates_4 ?_
      refine gh_ti (nI (R.1 42)) rfl ?_
      refine gh_icmp_ge C 89 dR_findUpdates_7 (by decide) (fun c7 => ?_) (fun c7 => ?_)
      ·
        refine gh_vret C hQ rfl dR_findUpdates_89 ?_
        exact ⟨rfl, h1⟩
      · exact absurd (nI_le (Nat.le_refl (R.1 42)) (by omega)) c7
    | succ c ih =>
      intro i x4 g1 hi h1
      have hlt : i < R.1 42 := by omega
      obtain ⟨M, eM⟩ : ∃ M, M = (fuM R e a (R.2 18 e) (R.2 51) i).1 := ⟨_, rfl⟩
      obtain ⟨N, eN⟩ : ∃ N, N = (fuM R e a (R.2 18 e) (R.2 51) i).2 := ⟨_, rfl⟩
      unfold fuR at h1
      rw [← eM, ← eN] at h1
      obtain ⟨m, hm, hpm⟩ := hpp i hlt
      have hcm : (R.2 44 i).toNatClampNeg = m := by rw [hpm]; exact nI_clamp (by omega)
      have inc : ∀ (x4 : Option Value) (g2 : gh_H), rQ g g2 y (fuR R e a (i + 1)) → gh_W l d z 83 [some (.ref (y 0)), some (.int (nI e)), some (.int (nI a)), some (.int (nI i)), x4] [] g2 0 0 := by
        intro x4 g2 h2
        refine gh_iinc C (nI (i + 1)) [some (.ref (y 0)), some (.int (nI e)), some (.int (nI a)), some (.int (nI (i + 1))), x4] dR_findUpdates_83 rfl (gh_inc i) rfl ?_
        refine gh_goto C 2 dR_findUpdates_86 (by decide) ?_
        exact ih (i + 1) x4 g2 (by omega) h2
      have no : ¬ fuQ R e a (lfp R i) i → fuR R e a (i + 1) = d2 R (upd (R.2 18) e M) N := fun hq => by unfold fuR; rw [eM, eN]; simp only [fuM, if_neg hq]
      refine gh_iload_n C dR_findUpdates_2 rfl ?_
      refine gh_aload_n C dR_findUpdates_3 rfl ?_
      refine rw_get C h1 fR_195 rfl dR_findUpdates_4 ?_
      refine gh_ti (nI (R.1 42)) rfl ?_
      refine gh_icmp_ge C 89 dR_findUpdates_7 (by decide) (fun c7 => ?_) (fun c7 => ?_)
      · exact absurd c7 (nI_ge hlt (by omega))
      ·
        refine gh_aload_n C dR_findUpdates_10 rfl ?_
        refine rw_get C h1 fR_83 rfl dR_findUpdates_11 ?_
        refine gh_aload_n C dR_findUpdates_14 rfl ?_
        refine rw_get C h1 fR_125 rfl dR_findUpdates_15 ?_
        refine gh_iload_n C dR_findUpdates_18 rfl ?_
        refine rw_ild C h1 44 20 ⟨rfl, rfl, rfl, by decide⟩ (i) rfl (by omega) dR_findUpdates_19 ?_
        refine gh_ti (nI m) hpm ?_
        refine rw_ild C h1 28 16 ⟨rfl, rfl, rfl, by decide⟩ (m) rfl (by omega) dR_findUpdates_20 ?_
        refine gh_ti (R.2 28 m) rfl ?_
        refine gh_istore C [some (.ref (y 0)), some (.int (nI e)), some (.int (nI a)), some (.int (nI i)), some (.int (R.2 28 m))] dR_findUpdates_21 rfl (Nat.le_of_ble_eq_true rfl) ?_
        refine gh_aload_n C dR_findUpdates_23 rfl ?_
        refine rw_get C h1 fR_122 rfl dR_findUpdates_24 ?_
        refine gh_iload_n C dR_findUpdates_27 rfl ?_
        refine rw_ild C h1 43 20 ⟨rfl, rfl, rfl, by decide⟩ (i) rfl (by omega) dR_findUpdates_28 ?_
        refine gh_ti (R.2 43 i) rfl ?_
        refine gh_iconst C 2 dR_findUpdates_29 (by decide) ?_
        refine gh_icmp_ne C 83 dR_findUpdates_30 (by decide) (fun c30 => ?_) (fun c30 => ?_)
        · exact inc _ _ (by rw [no (fun hq => absurd hq.1 c30)]; exact h1)
        ·
          obtain ⟨b, hb, hpb⟩ := hpr i hlt c30
          have hlf : lfp R i = b := by unfold lfp; rw [hpb]; exact nI_clamp (by omega)
          rw [hcm] at hpb
          rw [hpb]
          refine gh_iload C dR_findUpdates_33 rfl ?_
          refine gh_iload_n C dR_findUpdates_35 rfl ?_
          refine gh_icmp_eq C 83 dR_findUpdates_36 (by decide) (fun c36 => ?_) (fun c36 => ?_)
          · exact inc _ _ (by rw [no (fun hq => by unfold fuQ at hq; rw [hlf] at hq; exact hq.2.1 ((nI_eq (by omega) (by omega)).mp c36))]; exact h1)
          ·
            refine gh_aload_n C dR_findUpdates_39 rfl ?_
            refine rw_get C h1 fR_50 rfl dR_findUpdates_40 ?_
            refine gh_iload_n C dR_findUpdates_43 rfl ?_
            refine rw_ild C h1 17 60 ⟨rfl, rfl, rfl, by decide⟩ (e) rfl (by omega) dR_findUpdates_44 ?_
            refine gh_ti (R.2 17 e) rfl ?_
            refine gh_iload C dR_findUpdates_45 rfl ?_
            refine gh_ishr C dR_findUpdates_47 ?_
            refine gh_iconst C 1 dR_findUpdates_48 (by decide) ?_
            refine gh_iand C dR_findUpdates_49 ?_
            refine gh_iconst C 1 dR_findUpdates_50 (by decide) ?_
            refine gh_icmp_ne C 57 dR_findUpdates_51 (by decide) (fun c51 => ?_) (fun c51 => ?_)
            ·
              refine gh_aload_n C dR_findUpdates_57 rfl ?_
              refine rw_get C h1 fR_53 rfl dR_findUpdates_58 ?_
              refine gh_iload_n C dR_findUpdates_61 rfl ?_
              refine gh_dup2 C dR_findUpdates_62 rfl rfl ?_
              refine rw_ild C h1 18 60 ⟨rfl, rfl, rfl, by decide⟩ (e) rfl (by omega) dR_findUpdates_63 ?_
              refine gh_ti (M) (by simp [d2, ra, upd]) ?_
              refine gh_iconst C 1 dR_findUpdates_64 (by decide) ?_
              refine gh_iload C dR_findUpdates_65 rfl ?_
              refine gh_ishl C dR_findUpdates_67 ?_
              refine gh_ior C dR_findUpdates_68 ?_
              refine rw_ist C h1 18 60 ⟨rfl, rfl, rfl, by decide⟩ (e) rfl (by omega) dR_findUpdates_69 (fun g101 h101 => ?_)
              have h101 : rQ g g101 y (ra (d2 R (upd (R.2 18) e M) N) 18 (upd ((d2 R (upd (R.2 18) e M) N).2 18) e (M ||| (1 <<< ((nI b) &&& 31))))) := h101
              refine gh_aload_n C dR_findUpdates_70 rfl ?_
              refine rw_get C h101 fR_140 rfl dR_findUpdates_71 ?_
              refine gh_iload C dR_findUpdates_74 rfl ?_
              refine gh_aload_n C dR_findUpdates_76 rfl ?_
              refine rw_get C h101 fR_128 rfl dR_findUpdates_77 ?_
              refine gh_iload_n C dR_findUpdates_80 rfl ?_
              refine rw_ild C h101 45 20 ⟨rfl, rfl, rfl, by decide⟩ (i) rfl (by omega) dR_findUpdates_81 ?_
              refine gh_ti (R.2 45 i) rfl ?_
              refine rw_ist C h101 51 16 ⟨rfl, rfl, rfl, by decide⟩ (b) rfl (by omega) dR_findUpdates_82 (fun g102 h102 => ?_)
              have h102 : rQ g g102 y (ra (ra (d2 R (upd (R.2 18) e M) N) 18 (upd ((d2 R (upd (R.2 18) e M) N).2 18) e (M ||| (1 <<< ((nI b) &&& 31))))) 51 (upd ((d2 R (upd (R.2 18) e M) N).2 51) b (R.2 45 i))) := h102
              have hq : fuQ R e a (lfp R i) i := ⟨c30, by rw [hlf]; exact fun h => c36 (by rw [h]), by
                rw [hlf]
                by_cases h : R.2 17 e &&& bitN b = 0
                · exact h
                · exact absurd ((bt1 (by omega)).mpr h) c51⟩
              refine inc _ _ ?_
              have h9 := h102
              rw [show (d2 R (upd (R.2 18) e M) N).2 18 = upd (R.2 18) e M from rfl, show (d2 R (upd (R.2 18) e M) N).2 51 = N from rfl, d2_18, upd_upd, d2_51] at h9
              unfold fuR
              rw [show fuM R e a (R.2 18 e) (R.2 51) (i + 1) = ((fuM R e a (R.2 18 e) (R.2 51) i).1 ||| bitN (lfp R i), upd (fuM R e a (R.2 18 e) (R.2 51) i).2 (lfp R i) (R.2 45 i)) from if_pos hq, ← eM, ← eN, hlf]
              exact h9
            · refine gh_goto C 83 dR_findUpdates_54 (by decide) ?_
              exact inc _ _ (by rw [no (fun hq => by unfold fuQ at hq; rw [hlf] at hq; exact (bt1 (by omega)).mp c51 hq.2.2)]; exact h1)
  refine gh_iconst C 0 dR_findUpdates_0 (by decide) ?_
  refine gh_istore_n C [some (.ref (y 0)), some (.int (nI e)), some (.int (nI a)), some (.int 0), none] dR_findUpdates_1 rfl (Nat.le_of_ble_eq_true rfl) ?_
  exact loop (R.1 42) 0 _ g (by omega) (by unfold fuR; rw [show fuM R e a (R.2 18 e) (R.2 51) 0 = (R.2 18 e, R.2 51) from rfl, upd_self, d2_self]; exact h0)
