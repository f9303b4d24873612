/-! THE LAW'S CASES -/
section LWC
variable {l : Launch} {d : gh_D} {z : gh_Z} {nm : String} {b L ax ay ao i : Nat} {xs : Nat → Int32} {g : gh_H} {S : SC} {cb sb rem : Nat} {k5 k6 : Option Value}
set_option maxRecDepth 100000 in
set_option maxHeartbeats 4000000 in
theorem lw_c0 (C : gh_X d z (lwM nm) room_1) (hZ : gh_ZC d z) (hX : gh_SX d z b L xs) (hL : L ≤ 2048) (hi : i + 4 ≤ L) (htr : l.flags = pinnedFlags ++ [noTraceFlag]) (h : LI ax ay ao g S) (hB : LB S (rem + 1) cb sb) (next : ∀ (g2 : gh_H) (S2 : SC) (c2 s2 : Nat) (q5 q6 : Option Value), LI ax ay ao g2 S2 → LB S2 rem c2 s2 → gh_W l d z 850 [some (.ref b), some (.ref ax), some (.ref ay), some (.ref ao), some (.int (nI i)), q5, q6] [] g2 c2 s2) : gh_W l d z 120 [some (.ref b), some (.ref ax), some (.ref ay), some (.ref ao), some (.int (nI i)), k5, k6] [] g cb sb := by
  obtain ⟨Z, y, R, f0, e1, e2, hA, hR, hJ, h5⟩ := h
  subst e1; subst e2
  obtain ⟨c, s, k, n, S2, hn, hst, Po, hM, hP⟩ := cp_offer (d := d) htr (xs (nI i + nI 1).toNatClampNeg) hA hR hJ h5
  obtain ⟨hc, hs, hB2⟩ := hst rem cb sb hB
  refine gh_aload_n C dW_120 rfl ?_
  refine gh_aload_n C dW_121 rfl ?_
  refine gh_iload C dW_122 rfl ?_
  refine gh_iconst C (nI 1) dW_124 (by decide) ?_
  refine gh_iadd C dW_125 ?_
  refine gh_sld C hX (in_k (show i + 1 < L by omega) hL) dW_126 ?_
  refine gh_aload_n C dW_127 rfl ?_
  refine gh_callSW C hZ [.ref (Z 1 0), .int (xs (nI i + nI 1).toNatClampNeg), .ref ao] hM (show Cond.methodLink "RatchetGroupLaw" 41 mL_offer.1 ∈ gh_T from gh_in 388 (by decide +kernel) rfl) hw_offer rfl rfl (Nat.le_of_ble_eq_true rfl) ⟨Nat.le_of_ble_eq_true rfl, Nat.le_of_ble_eq_true rfl⟩ hc hs dW_128 (fun v g1 hp => ?_)
  obtain ⟨rfl, ⟨y1, R1, hy1, hR1⟩, Po2, hM2, hP2⟩ := hP v g1 hp
  refine gh_istore C [some (.ref b), some (.ref (Z 1 0)), some (.ref (y 0)), some (.ref ao), some (.int (nI i)), some (.int k), k6] dW_131 rfl (Nat.le_of_ble_eq_true rfl) ?_
  refine gh_aload_n C dW_133 rfl ?_
  refine gh_aload_n C dW_134 rfl ?_
  refine gh_iload C dW_135 rfl ?_
  refine gh_iconst C (nI 1) dW_137 (by decide) ?_
  refine gh_iadd C dW_138 ?_
  refine gh_sld C hX (in_k (show i + 1 < L by omega) hL) dW_139 ?_
  have hy30 : g1 (30, 0) = some (y 0, .inr (7, rO y1 R1)) := by rw [← hy1]; exact hR1.1
  refine gh_callV C [.int (xs (nI i + nI 1).toNatClampNeg)] hM2 lL_46 wR_offer vR_offer hy30 rfl rfl rfl (Nat.le_of_ble_eq_true rfl) ⟨by show n + 1 ≤ 2048; omega, by have h9 : mR_offer.2.2.1 ≤ 40 := (by decide); show 8 + (mR_offer.2.2.1 + 11) + 40 * n ≤ 84000; omega⟩ (Nat.zero_le _) (Nat.zero_le _) dW_140 (fun v2 g2 hp2 => ?_)
  obtain ⟨w, rfl, hCE⟩ := hP2 v2 g2 hp2
  have hLI2 := hCE.LI
  obtain ⟨Z2, y2, R2, f2, d1, d2, hA2, hR2, hJ2, h52, hk2, hw2⟩ := hCE
  refine gh_istore C [some (.ref b), some (.ref (Z 1 0)), some (.ref (y 0)), some (.ref ao), some (.int (nI i)), some (.int k), some (.int w)] dW_143 rfl (Nat.le_of_ble_eq_true rfl) ?_
  refine gh_aload_n C dW_145 rfl ?_
  have hy31 : g2 (30, 0) = some (y 0, .inr (7, rO y2 R2)) := by rw [← d2]; exact hR2.1
  refine gh_callV C [] (by rw [← d2]; exact r_thrown l d g2 hR2) lL_47 wR_thrown vR_thrown hy31 rfl rfl rfl (Nat.le_of_ble_eq_true rfl) ⟨Nat.le_of_ble_eq_true rfl, Nat.le_of_ble_eq_true rfl⟩ (Nat.zero_le _) (Nat.zero_le _) dW_146 (fun v3 g3 hp3 => ?_)
  obtain ⟨rfl, rfl⟩ := hp3
  refine gh_iload C dW_149 rfl ?_
  refine gh_icmp_eq C 156 dW_151 (by decide) (fun _ => ?_) (fun h9 => absurd hk2 h9)
  refine gh_iload C dW_156 rfl ?_
  refine gh_less C (cb - c) (sb - s) (Nat.le_refl _) (Nat.le_refl _) ?_
  have last : gh_W l d z 173 [some (.ref b), some (.ref (Z 1 0)), some (.ref (y 0)), some (.ref ao), some (.int (nI i)), some (.int k), some (.int w)] [] g3 (cb - c) (sb - s) := gh_goto C 850 dW_173 (by decide) (next g3 S2 _ _ _ _ hLI2 hB2)
  refine gh_if_ne C 173 dW_158 (by decide) (fun _ => last) (fun h0 => ?_)
  refine gh_aload_n C dW_161 rfl ?_
  refine gh_iconst C 0 dW_162 (by decide) ?_
  refine gh_lald C (K := (50, 0)) (t := 3) h52 rfl (by unfold vp_in; decide) dW_163 ?_
  refine gh_iload C dW_164 rfl ?_
  refine gh_i2l C dW_166 ?_
  refine gh_lcmp C dW_167 ?_
  rw [hw2 h0, lcmp_s]
  refine gh_if_eq C 173 dW_168 (by decide) (fun _ => last) (fun h9 => absurd rfl h9)
set_option maxRecDepth 100000 in
set_option maxHeartbeats 4000000 in
theorem lw_c1 (C : gh_X d z (lwM nm) room_1) (hZ : gh_ZC d z) (hX : gh_SX d z b L xs) (hL : L ≤ 2048) (hi : i + 4 ≤ L) (htr : l.flags = pinnedFlags ++ [noTraceFlag]) (h : LI ax ay ao g S) (hB : LB S (rem + 1) cb sb) (next : ∀ (g2 : gh_H) (S2 : SC) (c2 s2 : Nat) (q5 q6 : Option Value), LI ax ay ao g2 S2 → LB S2 rem c2 s2 → gh_W l d z 850 [some (.ref b), some (.ref ax), some (.ref ay), some (.ref ao), some (.int (nI i)), q5, q6] [] g2 c2 s2) : gh_W l d z 176 [some (.ref b), some (.ref ax), some (.ref ay), some (.ref ao), some (.int (nI i)), k5, k6] [] g cb sb := by
  obtain ⟨Z, y, R, f0, e1, e2, hA, hR, hJ, h5⟩ := h
  subst e1; subst e2
  obtain ⟨c, s, k, n, S2, hn, hst, Po, hM, hP⟩ := cp_add (d := d) htr (xs (nI i + nI 1).toNatClampNeg) (xs (nI i + nI 2).toNatClampNeg) hA hR hJ h5
  obtain ⟨hc, hs, hB2⟩ := hst rem cb sb hB
  refine gh_aload_n C dW_176 rfl ?_
  refine gh_aload_n C dW_177 rfl ?_
  refine gh_iload C dW_178 rfl ?_
  refine gh_iconst C (nI 1) dW_180 (by decide) ?_
  refine gh_iadd C dW_181 ?_
  refine gh_sld C hX (in_k (show i + 1 < L by omega) hL) dW_182 ?_
  refine gh_aload_n C dW_183 rfl ?_
  refine gh_iload C dW_184 rfl ?_
  refine gh_iconst C (nI 2) dW_186 (by decide) ?_
  refine gh_iadd C dW_187 ?_
  refine gh_sld C hX (in_k (show i + 2 < L by omega) hL) dW_188 ?_
  refine gh_aload_n C dW_189 rfl ?_
  refine gh_callSW C hZ [.ref (Z 1 0), .int (xs (nI i + nI 1).toNatClampNeg), .int (xs (nI i + nI 2).toNatClampNeg), .ref ao] hM (show Cond.methodLink "RatchetGroupLaw" 51 mL_add.1 ∈ gh_T from gh_in 503 (by decide +kernel) rfl) hw_add rfl rfl (Nat.le_of_ble_eq_true rfl) ⟨Nat.le_of_ble_eq_true rfl, Nat.le_of_ble_eq_true rfl⟩ hc hs dW_190 (fun v g1 hp => ?_)
  obtain ⟨rfl, ⟨y1, R1, hy1, hR1⟩, Po2, hM2, hP2⟩ := hP v g1 hp
  refine gh_istore C [some (.ref b), some (.ref (Z 1 0)), some (.ref (y 0)), some (.ref ao), some (.int (nI i)), some (.int k), k6] dW_193 rfl (Nat.le_of_ble_eq_true rfl) ?_
  refine gh_aload_n C dW_195 rfl ?_
  refine gh_aload_n C dW_196 rfl ?_
  refine gh_iload C dW_197 rfl ?_
  refine gh_iconst C (nI 1) dW_199 (by decide) ?_
  refine gh_iadd C dW_200 ?_
  refine gh_sld C hX (in_k (show i + 1 < L by omega) hL) dW_201 ?_
  refine gh_aload_n C dW_202 rfl ?_
  refine gh_iload C dW_203 rfl ?_
  refine gh_iconst C (nI 2) dW_205 (by decide) ?_
  refine gh_iadd C dW_206 ?_
  refine gh_sld C hX (in_k (show i + 2 < L by omega) hL) dW_207 ?_
  have hy30 : g1 (30, 0) = some (y 0, .inr (7, rO y1 R1)) := by rw [← hy1]; exact hR1.1
  refine gh_callV C [.int (xs (nI i + nI 1).toNatClampNeg), .int (xs (nI i + nI 2).toNatClampNeg)] hM2 lL_54 wR_add vR_add hy30 rfl rfl rfl (Nat.le_of_ble_eq_true rfl) ⟨by show n + 1 ≤ 2048; omega, by have h9 : mR_add.2.2.1 ≤ 40 := (by decide); show 8 + (mR_add.2.2.1 + 11) + 40 * n ≤ 84000; omega⟩ (Nat.zero_le _) (Nat.zero_le _) dW_208 (fun v2 g2 hp2 => ?_)
  obtain ⟨w, rfl, hCE⟩ := hP2 v2 g2 hp2
  have hLI2 := hCE.LI
  obtain ⟨Z2, y2, R2, f2, d1, d2, hA2, hR2, hJ2, h52, hk2, hw2⟩ := hCE
  refine gh_istore C [some (.ref b), some (.ref (Z 1 0)), some (.ref (y 0)), some (.ref ao), some (.int (nI i)), some (.int k), some (.int w)] dW_211 rfl (Nat.le_of_ble_eq_true rfl) ?_
  refine gh_aload_n C dW_213 rfl ?_
  have hy31 : g2 (30, 0) = some (y 0, .inr (7, rO y2 R2)) := by rw [← d2]; exact hR2.1
  refine gh_callV C [] (by rw [← d2]; exact r_thrown l d g2 hR2) lL_47 wR_thrown vR_thrown hy31 rfl rfl rfl (Nat.le_of_ble_eq_true rfl) ⟨Nat.le_of_ble_eq_true rfl, Nat.le_of_ble_eq_true rfl⟩ (Nat.zero_le _) (Nat.zero_le _) dW_214 (fun v3 g3 hp3 => ?_)
  obtain ⟨rfl, rfl⟩ := hp3
  refine gh_iload C dW_217 rfl ?_
  refine gh_icmp_eq C 224 dW_219 (by decide) (fun _ => ?_) (fun h9 => absurd hk2 h9)
  refine gh_iload C dW_224 rfl ?_
  refine gh_less C (cb - c) (sb - s) (Nat.le_refl _) (Nat.le_refl _) ?_
  have last : gh_W l d z 241 [some (.ref b), some (.ref (Z 1 0)), some (.ref (y 0)), some (.ref ao), some (.int (nI i)), some (.int k), some (.int w)] [] g3 (cb - c) (sb - s) := gh_goto C 850 dW_241 (by decide) (next g3 S2 _ _ _ _ hLI2 hB2)
  refine gh_if_ne C 241 dW_226 (by decide) (fun _ => last) (fun h0 => ?_)
  refine gh_aload_n C dW_229 rfl ?_
  refine gh_iconst C 0 dW_230 (by decide) ?_
  refine gh_lald C (K := (50, 0)) (t := 3) h52 rfl (by unfold vp_in; decide) dW_231 ?_
  refine gh_iload C dW_232 rfl ?_
  refine gh_i2l C dW_234 ?_
  refine gh_lcmp C dW_235 ?_
  rw [hw2 h0, lcmp_s]
  refine gh_if_eq C 241 dW_236 (by decide) (fun _ => last) (fun h9 => absurd rfl h9)
set_option maxRecDepth 100000 in
set_option maxHeartbeats 4000000 in
theorem lw_c2 (C : gh_X d z (lwM nm) room_1) (hZ : gh_ZC d z) (hX : gh_SX d z b L xs) (hL : L ≤ 2048) (hi : i + 4 ≤ L) (htr : l.flags = pinnedFlags ++ [noTraceFlag]) (h : LI ax ay ao g S) (hB : LB S (rem + 1) cb sb) (next : ∀ (g2 : gh_H) (S2 : SC) (c2 s2 : Nat) (q5 q6 : Option Value), LI ax ay ao g2 S2 → LB S2 rem c2 s2 → gh_W l d z 850 [some (.ref b), some (.ref ax), some (.ref ay), some (.ref ao), some (.int (nI i)), q5, q6] [] g2 c2 s2) : gh_W l d z 244 [some (.ref b), some (.ref ax), some (.ref ay), some (.ref ao), some (.int (nI i)), k5, k6] [] g cb sb := by
  obtain ⟨Z, y, R, f0, e1, e2, hA, hR, hJ, h5⟩ := h
  subst e1; subst e2
  obtain ⟨c, s, k, n, S2, hn, hst, Po, hM, hP⟩ := cp_remove (d := d) htr (xs (nI i + nI 1).toNatClampNeg) (xs (nI i + nI 2).toNatClampNeg) hA hR hJ h5
  obtain ⟨hc, hs, hB2⟩ := hst rem cb sb hB
  refine gh_aload_n C dW_244 rfl ?_
  refine gh_aload_n C dW_245 rfl ?_
  refine gh_iload C dW_246 rfl ?_
  refine gh_iconst C (nI 1) dW_248 (by decide) ?_
  refine gh_iadd C dW_249 ?_
  refine gh_sld C hX (in_k (show i + 1 < L by omega) hL) dW_250 ?_
  refine gh_aload_n C dW_251 rfl ?_
  refine gh_iload C dW_252 rfl ?_
  refine gh_iconst C (nI 2) dW_254 (by decide) ?_
  refine gh_iadd C dW_255 ?_
  refine gh_sld C hX (in_k (show i + 2 < L by omega) hL) dW_256 ?_
  refine gh_aload_n C dW_257 rfl ?_
  refine gh_callSW C hZ [.ref (Z 1 0), .int (xs (nI i + nI 1).toNatClampNeg), .int (xs (nI i + nI 2).toNatClampNeg), .ref ao] hM (show Cond.methodLink "RatchetGroupLaw" 55 mL_remove.1 ∈ gh_T from gh_in 540 (by decide +kernel) rfl) hw_remove rfl rfl (Nat.le_of_ble_eq_true rfl) ⟨Nat.le_of_ble_eq_true rfl, Nat.le_of_ble_eq_true rfl⟩ hc hs dW_258 (fun v g1 hp => ?_)
  obtain ⟨rfl, ⟨y1, R1, hy1, hR1⟩, Po2, hM2, hP2⟩ := hP v g1 hp
  refine gh_istore C [some (.ref b), some (.ref (Z 1 0)), some (.ref (y 0)), some (.ref ao), some (.int (nI i)), some (.int k), k6] dW_261 rfl (Nat.le_of_ble_eq_true rfl) ?_
  refine gh_aload_n C dW_263 rfl ?_
  refine gh_aload_n C dW_264 rfl ?_
  refine gh_iload C dW_265 rfl ?_
  refine gh_iconst C (nI 1) dW_267 (by decide) ?_
  refine gh_iadd C dW_268 ?_
  refine gh_sld C hX (in_k (show i + 1 < L by omega) hL) dW_269 ?_
  refine gh_aload_n C dW_270 rfl ?_
  refine gh_iload C dW_271 rfl ?_
  refine gh_iconst C (nI 2) dW_273 (by decide) ?_
  refine gh_iadd C dW_274 ?_
  refine gh_sld C hX (in_k (show i + 2 < L by omega) hL) dW_275 ?_
  have hy30 : g1 (30, 0) = some (y 0, .inr (7, rO y1 R1)) := by rw [← hy1]; exact hR1.1
  refine gh_callV C [.int (xs (nI i + nI 1).toNatClampNeg), .int (xs (nI i + nI 2).toNatClampNeg)] hM2 lL_57 wR_remove vR_remove hy30 rfl rfl rfl (Nat.le_of_ble_eq_true rfl) ⟨by show n + 1 ≤ 2048; omega, by have h9 : mR_remove.2.2.1 ≤ 40 := (by decide); show 8 + (mR_remove.2.2.1 + 11) + 40 * n ≤ 84000; omega⟩ (Nat.zero_le _) (Nat.zero_le _) dW_276 (fun v2 g2 hp2 => ?_)
  obtain ⟨w, rfl, hCE⟩ := hP2 v2 g2 hp2
  have hLI2 := hCE.LI
  obtain ⟨Z2, y2, R2, f2, d1, d2, hA2, hR2, hJ2, h52, hk2, hw2⟩ := hCE
  refine gh_istore C [some (.ref b), some (.ref (Z 1 0)), some (.ref (y 0)), some (.ref ao), some (.int (nI i)), some (.int k), some (.int w)] dW_279 rfl (Nat.le_of_ble_eq_true rfl) ?_
  refine gh_aload_n C dW_281 rfl ?_
  have hy31 : g2 (30, 0) = some (y 0, .inr (7, rO y2 R2)) := by rw [← d2]; exact hR2.1
  refine gh_callV C [] (by rw [← d2]; exact r_thrown l d g2 hR2) lL_47 wR_thrown vR_thrown hy31 rfl rfl rfl (Nat.le_of_ble_eq_true rfl) ⟨Nat.le_of_ble_eq_true rfl, Nat.le_of_ble_eq_true rfl⟩ (Nat.zero_le _) (Nat.zero_le _) dW_282 (fun v3 g3 hp3 => ?_)
  obtain ⟨rfl, rfl⟩ := hp3
  refine gh_iload C dW_285 rfl ?_
  refine gh_icmp_eq C 292 dW_287 (by decide) (fun _ => ?_) (fun h9 => absurd hk2 h9)
  refine gh_iload C dW_292 rfl ?_
  refine gh_less C (cb - c) (sb - s) (Nat.le_refl _) (Nat.le_refl _) ?_
  have last : gh_W l d z 309 [some (.ref b), some (.ref (Z 1 0)), some (.ref (y 0)), some (.ref ao), some (.int (nI i)), some (.int k), some (.int w)] [] g3 (cb - c) (sb - s) := gh_goto C 850 dW_309 (by decide) (next g3 S2 _ _ _ _ hLI2 hB2)
  refine gh_if_ne C 309 dW_294 (by decide) (fun _ => last) (fun h0 => ?_)
  refine gh_aload_n C dW_297 rfl ?_
  refine gh_iconst C 0 dW_298 (by decide) ?_
  refine gh_lald C (K := (50, 0)) (t := 3) h52 rfl (by unfold vp_in; decide) dW_299 ?_
  refine gh_iload C dW_300 rfl ?_
  refine gh_i2l C dW_302 ?_
  refine gh_lcmp C dW_303 ?_
  rw [hw2 h0, lcmp_s]
  refine gh_if_eq C 309 dW_304 (by decide) (fun _ => last) (fun h9 => absurd rfl h9)
set_option maxRecDepth 100000 in
set_option maxHeartbeats 4000000 in
theorem lw_c3 (C : gh_X d z (lwM nm) room_1) (hZ : gh_ZC d z) (hX : gh_SX d z b L xs) (hL : L ≤ 2048) (hi : i + 4 ≤ L) (htr : l.flags = pinnedFlags ++ [noTraceFlag]) (h : LI ax ay ao g S) (hB : LB S (rem + 1) cb sb) (next : ∀ (g2 : gh_H) (S2 : SC) (c2 s2 : Nat) (q5 q6 : Option Value), LI ax ay ao g2 S2 → LB S2 rem c2 s2 → gh_W l d z 850 [some (.ref b), some (.ref ax), some (.ref ay), some (.ref ao), some (.int (nI i)), q5, q6] [] g2 c2 s2) : gh_W l d z 312 [some (.ref b), some (.ref ax), some (.ref ay), some (.ref ao), some (.int (nI i)), k5, k6] [] g cb sb := by
  obtain ⟨Z, y, R, f0, e1, e2, hA, hR, hJ, h5⟩ := h
  subst e1; subst e2
  obtain ⟨c, s, k, n, S2, hn, hst, Po, hM, hP⟩ := cp_update (d := d) htr (xs (nI i + nI 1).toNatClampNeg) hA hR hJ h5
  obtain ⟨hc, hs, hB2⟩ := hst rem cb sb hB
  refine gh_aload_n C dW_312 rfl ?_
  refine gh_aload_n C dW_313 rfl ?_
  refine gh_iload C dW_314 rfl ?_
  refine gh_iconst C (nI 1) dW_316 (by decide) ?_
  refine gh_iadd C dW_317 ?_
  refine gh_sld C hX (in_k (show i + 1 < L by omega) hL) dW_318 ?_
  refine gh_aload_n C dW_319 rfl ?_
  refine gh_callSW C hZ [.ref (Z 1 0), .int (xs (nI i + nI 1).toNatClampNeg), .ref ao] hM (show Cond.methodLink "RatchetGroupLaw" 58 mL_update.1 ∈ gh_T from gh_in 547 (by decide +kernel) rfl) hw_update rfl rfl (Nat.le_of_ble_eq_true rfl) ⟨Nat.le_of_ble_eq_true rfl, Nat.le_of_ble_eq_true rfl⟩ hc hs dW_320 (fun v g1 hp => ?_)
  obtain ⟨rfl, ⟨y1, R1, hy1, hR1⟩, Po2, hM2, hP2⟩ := hP v g1 hp
  refine gh_istore C [some (.ref b), some (.ref (Z 1 0)), some (.ref (y 0)), some (.ref ao), some (.int (nI i)), some (.int k), k6] dW_323 rfl (Nat.le_of_ble_eq_true rfl) ?_
  refine gh_aload_n C dW_325 rfl ?_
  refine gh_aload_n C dW_326 rfl ?_
  refine gh_iload C dW_327 rfl ?_
  refine gh_iconst C (nI 1) dW_329 (by decide) ?_
  refine gh_iadd C dW_330 ?_
  refine gh_sld C hX (in_k (show i + 1 < L by omega) hL) dW_331 ?_
  have hy30 : g1 (30, 0) = some (y 0, .inr (7, rO y1 R1)) := by rw [← hy1]; exact hR1.1
  refine gh_callV C [.int (xs (nI i + nI 1).toNatClampNeg)] hM2 lL_60 wR_update vR_update hy30 rfl rfl rfl (Nat.le_of_ble_eq_true rfl) ⟨by show n + 1 ≤ 2048; omega, by have h9 : mR_update.2.2.1 ≤ 40 := (by decide); show 8 + (mR_update.2.2.1 + 11) + 40 * n ≤ 84000; omega⟩ (Nat.zero_le _) (Nat.zero_le _) dW_332 (fun v2 g2 hp2 => ?_)
  obtain ⟨w, rfl, hCE⟩ := hP2 v2 g2 hp2
  have hLI2 := hCE.LI
  obtain ⟨Z2, y2, R2, f2, d1, d2, hA2, hR2, hJ2, h52, hk2, hw2⟩ := hCE
  refine gh_istore C [some (.ref b), some (.ref (Z 1 0)), some (.ref (y 0)), some (.ref ao), some (.int (nI i)), some (.int k), some (.int w)] dW_335 rfl (Nat.le_of_ble_eq_true rfl) ?_
  refine gh_aload_n C dW_337 rfl ?_
  have hy31 : g2 (30, 0) = some (y 0, .inr (7, rO y2 R2)) := by rw [← d2]; exact hR2.1
  refine gh_callV C [] (by rw [← d2]; exact r_thrown l d g2 hR2) lL_47 wR_thrown vR_thrown hy31 rfl rfl rfl (Nat.le_of_ble_eq_true rfl) ⟨Nat.le_of_ble_eq_true rfl, Nat.le_of_ble_eq_true rfl⟩ (Nat.zero_le _) (Nat.zero_le _) dW_338 (fun v3 g3 hp3 => ?_)
  obtain ⟨rfl, rfl⟩ := hp3
  refine gh_iload C dW_341 rfl ?_
  refine gh_icmp_eq C 348 dW_343 (by decide) (fun _ => ?_) (fun h9 => absurd hk2 h9)
  refine gh_iload C dW_348 rfl ?_
  refine gh_less C (cb - c) (sb - s) (Nat.le_refl _) (Nat.le_refl _) ?_
  have last : gh_W l d z 365 [some (.ref b), some (.ref (Z 1 0)), some (.ref (y 0)), some (.ref ao), some (.int (nI i)), some (.int k), some (.int w)] [] g3 (cb - c) (sb - s) := gh_goto C 850 dW_365 (by decide) (next g3 S2 _ _ _ _ hLI2 hB2)
  refine gh_if_ne C 365 dW_350 (by decide) (fun _ => last) (fun h0 => ?_)
  refine gh_aload_n C dW_353 rfl ?_
  refine gh_iconst C 0 dW_354 (by decide) ?_
  refine gh_lald C (K := (50, 0)) (t := 3) h52 rfl (by unfold vp_in; decide) dW_355 ?_
  refine gh_iload C dW_356 rfl ?_
  refine gh_i2l C dW_358 ?_
  refine gh_lcmp C dW_359 ?_
  rw [hw2 h0, lcmp_s]
  refine gh_if_eq C 365 dW_360 (by decide) (fun _ => last) (fun h9 => absurd rfl h9)
set_option maxRecDepth 100000 in
set_option maxHeartbeats 4000000 in
theorem lw_c4z (C : gh_X d z (lwM nm) room_1) (hZ : gh_ZC d z) (hX : gh_SX d z b L xs) (hL : L ≤ 2048) (hi : i + 4 ≤ L) (htr : l.flags = pinnedFlags ++ [noTraceFlag]) (h : LI ax ay ao g S) (hB : LB S (rem + 1) cb sb) (next : ∀ (g2 : gh_H) (S2 : SC) (c2 s2 : Nat) (q5 q6 : Option Value), LI ax ay ao g2 S2 → LB S2 rem c2 s2 → gh_W l d z 850 [some (.ref b), some (.ref ax), some (.ref ay), some (.ref ao), some (.int (nI i)), q5, q6] [] g2 c2 s2) (hx2 : (xs (nI i + nI 2).toNatClampNeg) = 0) : gh_W l d z 368 [some (.ref b), some (.ref ax), some (.ref ay), some (.ref ao), some (.int (nI i)), k5, k6] [] g cb sb := by
  obtain ⟨Z, y, R, f0, e1, e2, hA, hR, hJ, h5⟩ := h
  subst e1; subst e2
  obtain ⟨c, s, k, n, S2, hn, hst, Po, hM, hP⟩ := cp_commit (d := d) htr (xs (nI i + nI 1).toNatClampNeg) 0 hA hR hJ h5
  obtain ⟨hc, hs, hB2⟩ := hst rem cb sb hB
  refine gh_aload_n C dW_368 rfl ?_
  refine gh_aload_n C dW_369 rfl ?_
  refine gh_iload C dW_370 rfl ?_
  refine gh_iconst C (nI 1) dW_372 (by decide) ?_
  refine gh_iadd C dW_373 ?_
  refine gh_sld C hX (in_k (show i + 1 < L by omega) hL) dW_374 ?_
  refine gh_aload_n C dW_375 rfl ?_
  refine gh_iload C dW_376 rfl ?_
  refine gh_iconst C (nI 2) dW_378 (by decide) ?_
  refine gh_iadd C dW_379 ?_
  refine gh_sld C hX (in_k (show i + 2 < L by omega) hL) dW_380 ?_
  refine gh_if_eq C 388 dW_381 (by decide) (fun _ => ?_) (fun h9 => absurd hx2 h9)
  refine gh_iconst C 0 dW_388 (by decide) ?_
  refine gh_aload_n C dW_389 rfl ?_
  refine gh_callSW C hZ [.ref (Z 1 0), .int (xs (nI i + nI 1).toNatClampNeg), .int 0, .ref ao] hM (show Cond.methodLink "RatchetGroupLaw" 61 mL_commit.1 ∈ gh_T from gh_in 558 (by decide +kernel) rfl) hw_commit rfl rfl (Nat.le_of_ble_eq_true rfl) ⟨Nat.le_of_ble_eq_true rfl, Nat.le_of_ble_eq_true rfl⟩ hc hs dW_390 (fun v g1 hp => ?_)
  obtain ⟨rfl, ⟨y1, R1, hy1, hR1⟩, Po2, hM2, hP2⟩ := hP v g1 hp
  refine gh_istore C [some (.ref b), some (.ref (Z 1 0)), some (.ref (y 0)), some (.ref ao), some (.int (nI i)), some (.int k), k6] dW_393 rfl (Nat.le_of_ble_eq_true rfl) ?_
  refine gh_aload_n C dW_395 rfl ?_
  refine gh_aload_n C dW_396 rfl ?_
  refine gh_iload C dW_397 rfl ?_
  refine gh_iconst C (nI 1) dW_399 (by decide) ?_
  refine gh_iadd C dW_400 ?_
  refine gh_sld C hX (in_k (show i + 1 < L by omega) hL) dW_401 ?_
  refine gh_aload_n C dW_402 rfl ?_
  refine gh_iload C dW_403 rfl ?_
  refine gh_iconst C (nI 2) dW_405 (by decide) ?_
  refine gh_iadd C dW_406 ?_
  refine gh_sld C hX (in_k (show i + 2 < L by omega) hL) dW_407 ?_
  refine gh_if_eq C 415 dW_408 (by decide) (fun _ => ?_) (fun h9 => absurd hx2 h9)
  refine gh_iconst C 0 dW_415 (by decide) ?_
  have hy30 : g1 (30, 0) = some (y 0, .inr (7, rO y1 R1)) := by rw [← hy1]; exact hR1.1
  refine gh_callV C [.int (xs (nI i + nI 1).toNatClampNeg), .int 0] hM2 lL_64 wR_commit vR_commit hy30 rfl rfl rfl (Nat.le_of_ble_eq_true rfl) ⟨by show n + 1 ≤ 2048; omega, by have h9 : mR_commit.2.2.1 ≤ 40 := (by decide); show 8 + (mR_commit.2.2.1 + 11) + 40 * n ≤ 84000; omega⟩ (Nat.zero_le _) (Nat.zero_le _) dW_416 (fun v2 g2 hp2 => ?_)
  obtain ⟨w, rfl, hCE⟩ := hP2 v2 g2 hp2
  have hLI2 := hCE.LI
  obtain ⟨Z2, y2, R2, f2, d1, d2, hA2, hR2, hJ2, h52, hk2, hw2⟩ := hCE
  refine gh_istore C [some (.ref b), some (.ref (Z 1 0)), some (.ref (y 0)), some (.ref ao), some (.int (nI i)), some (.int k), some (.int w)] dW_419 rfl (Nat.le_of_ble_eq_true rfl) ?_
  refine gh_aload_n C dW_421 rfl ?_
  have hy31 : g2 (30, 0) = some (y 0, .inr (7, rO y2 R2)) := by rw [← d2]; exact hR2.1
  refine gh_callV C [] (by rw [← d2]; exact r_thrown l d g2 hR2) lL_47 wR_thrown vR_thrown hy31 rfl rfl rfl (Nat.le_of_ble_eq_true rfl) ⟨Nat.le_of_ble_eq_true rfl, Nat.le_of_ble_eq_true rfl⟩ (Nat.zero_le _) (Nat.zero_le _) dW_422 (fun v3 g3 hp3 => ?_)
  obtain ⟨rfl, rfl⟩ := hp3
  refine gh_iload C dW_425 rfl ?_
  refine gh_icmp_eq C 432 dW_427 (by decide) (fun _ => ?_) (fun h9 => absurd hk2 h9)
  refine gh_iload C dW_432 rfl ?_
  refine gh_less C (cb - c) (sb - s) (Nat.le_refl _) (Nat.le_refl _) ?_
  have last : gh_W l d z 449 [some (.ref b), some (.ref (Z 1 0)), some (.ref (y 0)), some (.ref ao), some (.int (nI i)), some (.int k), some (.int w)] [] g3 (cb - c) (sb - s) := gh_goto C 850 dW_449 (by decide) (next g3 S2 _ _ _ _ hLI2 hB2)
  refine gh_if_ne C 449 dW_434 (by decide) (fun _ => last) (fun h0 => ?_)
  refine gh_aload_n C dW_437 rfl ?_
  refine gh_iconst C 0 dW_438 (by decide) ?_
  refine gh_lald C (K := (50, 0)) (t := 3) h52 rfl (by unfold vp_in; decide) dW_439 ?_
  refine gh_iload C dW_440 rfl ?_
  refine gh_i2l C dW_442 ?_
  refine gh_lcmp C dW_443 ?_
  rw [hw2 h0, lcmp_s]
  refine gh_if_eq C 449 dW_444 (by decide) (fun _ => last) (fun h9 => absurd rfl h9)
set_option maxRecDepth 100000 in
set_option maxHeartbeats 4000000 in
theorem lw_c4n (C : gh_X d z (lwM nm) room_1) (hZ : gh_ZC d z) (hX : gh_SX d z b L xs) (hL : L ≤ 2048) (hi : i + 4 ≤ L) (htr : l.flags = pinnedFlags ++ [noTraceFlag]) (h : LI ax ay ao g S) (hB : LB S (rem + 1) cb sb) (next : ∀ (g2 : gh_H) (S2 : SC) (c2 s2 : Nat) (q5 q6 : Option Value), LI ax ay ao g2 S2 → LB S2 rem c2 s2 → gh_W l d z 850 [some (.ref b), some (.ref ax), some (.ref ay), some (.ref ao), some (.int (nI i)), q5, q6] [] g2 c2 s2) (hx2 : ¬ (xs (nI i + nI 2).toNatClampNeg) = 0) : gh_W l d z 368 [some (.ref b), some (.ref ax), some (.ref ay), some (.ref ao), some (.int (nI i)), k5, k6] [] g cb sb := by
  obtain ⟨Z, y, R, f0, e1, e2, hA, hR, hJ, h5⟩ := h
  subst e1; subst e2
  obtain ⟨c, s, k, n, S2, hn, hst, Po, hM, hP⟩ := cp_commit (d := d) htr (xs (nI i + nI 1).toNatClampNeg) 1 hA hR hJ h5
  obtain ⟨hc, hs, hB2⟩ := hst rem cb sb hB
  refine gh_aload_n C dW_368 rfl ?_
  refine gh_aload_n C dW_369 rfl ?_
  refine gh_iload C dW_370 rfl ?_
  refine gh_iconst C (nI 1) dW_372 (by decide) ?_
  refine gh_iadd C dW_373 ?_
  refine gh_sld C hX (in_k (show i + 1 < L by omega) hL) dW_374 ?_
  refine gh_aload_n C dW_375 rfl ?_
  refine gh_iload C dW_376 rfl ?_
  refine gh_iconst C (nI 2) dW_378 (by decide) ?_
  refine gh_iadd C dW_379 ?_
  refine gh_sld C hX (in_k (show i + 2 < L by omega) hL) dW_380 ?_
  refine gh_if_eq C 388 dW_381 (by decide) (fun h9 => absurd h9 hx2) (fun _ => ?_)
  refine gh_iconst C 1 dW_384 (by decide) ?_
  refine gh_goto C 389 dW_385 (by decide) ?_
  refine gh_aload_n C dW_389 rfl ?_
  refine gh_callSW C hZ [.ref (Z 1 0), .int (xs (nI i + nI 1).toNatClampNeg), .int 1, .ref ao] hM (show Cond.methodLink "RatchetGroupLaw" 61 mL_commit.1 ∈ gh_T from gh_in 558 (by decide +kernel) rfl) hw_commit rfl rfl (Nat.le_of_ble_eq_true rfl) ⟨Nat.le_of_ble_eq_true rfl, Nat.le_of_ble_eq_true rfl⟩ hc hs dW_390 (fun v g1 hp => ?_)
  obtain ⟨rfl, ⟨y1, R1, hy1, hR1⟩, Po2, hM2, hP2⟩ := hP v g1 hp
  refine gh_istore C [some (.ref b), some (.ref (Z 1 0)), some (.ref (y 0)), some (.ref ao), some (.int (nI i)), some (.int k), k6] dW_393 rfl (Nat.le_of_ble_eq_true rfl) ?_
  refine gh_aload_n C dW_395 rfl ?_
  refine gh_aload_n C dW_396 rfl ?_
  refine gh_iload C dW_397 rfl ?_
  refine gh_iconst C (nI 1) dW_399 (by decide) ?_
  refine gh_iadd C dW_400 ?_
  refine gh_sld C hX (in_k (show i + 1 < L by omega) hL) dW_401 ?_
  refine gh_aload_n C dW_402 rfl ?_
  refine gh_iload C dW_403 rfl ?_
  refine gh_iconst C (nI 2) dW_405 (by decide) ?_
  refine gh_iadd C dW_406 ?_
  refine gh_sld C hX (in_k (show i + 2 < L by omega) hL) dW_407 ?_
  refine gh_if_eq C 415 dW_408 (by decide) (fun h9 => absurd h9 hx2) (fun _ => ?_)
  refine gh_iconst C 1 dW_411 (by decide) ?_
  refine gh_goto C 416 dW_412 (by decide) ?_
  have hy30 : g1 (30, 0) = some (y 0, .inr (7, rO y1 R1)) := by rw [← hy1]; exact hR1.1
  refine gh_callV C [.int (xs (nI i + nI 1).toNatClampNeg), .int 1] hM2 lL_64 wR_commit vR_commit hy30 rfl rfl rfl (Nat.le_of_ble_eq_true rfl) ⟨by show n + 1 ≤ 2048; omega, by have h9 : mR_commit.2.2.1 ≤ 40 := (by decide); show 8 + (mR_commit.2.2.1 + 11) + 40 * n ≤ 84000; omega⟩ (Nat.zero_le _) (Nat.zero_le _) dW_416 (fun v2 g2 hp2 => ?_)
  obtain ⟨w, rfl, hCE⟩ := hP2 v2 g2 hp2
  have hLI2 := hCE.LI
  obtain ⟨Z2, y2, R2, f2, d1, d2, hA2, hR2, hJ2, h52, hk2, hw2⟩ := hCE
  refine gh_istore C [some (.ref b), some (.ref (Z 1 0)), some (.ref (y 0)), some (.ref ao), some (.int (nI i)), some (.int k), some (.int w)] dW_419 rfl (Nat.le_of_ble_eq_true rfl) ?_
  refine gh_aload_n C dW_421 rfl ?_
  have hy31 : g2 (30, 0) = some (y 0, .inr (7, rO y2 R2)) := by rw [← d2]; exact hR2.1
  refine gh_callV C [] (by rw [← d2]; exact r_thrown l d g2 hR2) lL_47 wR_thrown vR_thrown hy31 rfl rfl rfl (Nat.le_of_ble_eq_true rfl) ⟨Nat.le_of_ble_eq_true rfl, Nat.le_of_ble_eq_true rfl⟩ (Nat.zero_le _) (Nat.zero_le _) dW_422 (fun v3 g3 hp3 => ?_)
  obtain ⟨rfl, rfl⟩ := hp3
  refine gh_iload C dW_425 rfl ?_
  refine gh_icmp_eq C 432 dW_427 (by decide) (fun _ => ?_) (fun h9 => absurd hk2 h9)
  refine gh_iload C dW_432 rfl ?_
  refine gh_less C (cb - c) (sb - s) (Nat.le_refl _) (Nat.le_refl _) ?_
  have last : gh_W l d z 449 [some (.ref b), some (.ref (Z 1 0)), some (.ref (y 0)), some (.ref ao), some (.int (nI i)), some (.int k), some (.int w)] [] g3 (cb - c) (sb - s) := gh_goto C 850 dW_449 (by decide) (next g3 S2 _ _ _ _ hLI2 hB2)
  refine gh_if_ne C 449 dW_434 (by decide) (fun _ => last) (fun h0 => ?_)
  refine gh_aload_n C dW_437 rfl ?_
  refine gh_iconst C 0 dW_438 (by decide) ?_
  refine gh_lald C (K := (50, 0)) (t := 3) h52 rfl (by unfold vp_in; decide) dW_439 ?_
  refine gh_iload C dW_440 rfl ?_
  refine gh_i2l C dW_442 ?_
  refine gh_lcmp C dW_443 ?_
  rw [hw2 h0, lcmp_s]
  refine gh_if_eq C 449 dW_444 (by decide) (fun _ => last) (fun h9 => absurd rfl h9)
set_option maxRecDepth 100000 in
set_option maxHeartbeats 4000000 in
theorem lw_c5 (C : gh_X d z (lwM nm) room_1) (hZ : gh_ZC d z) (hX : gh_SX d z b L xs) (hL : L ≤ 2048) (hi : i + 4 ≤ L) (htr : l.flags = pinnedFlags ++ [noTraceFlag]) (h : LI ax ay ao g S) (hB : LB S (rem + 1) cb sb) (next : ∀ (g2 : gh_H) (S2 : SC) (c2 s2 : Nat) (q5 q6 : Option Value), LI ax ay ao g2 S2 → LB S2 rem c2 s2 → gh_W l d z 850 [some (.ref b), some (.ref ax), some (.ref ay), some (.ref ao), some (.int (nI i)), q5, q6] [] g2 c2 s2) : gh_W l d z 452 [some (.ref b), some (.ref ax), some (.ref ay), some (.ref ao), some (.int (nI i)), k5, k6] [] g cb sb := by
  obtain ⟨Z, y, R, f0, e1, e2, hA, hR, hJ, h5⟩ := h
  subst e1; subst e2
  obtain ⟨c, s, k, n, S2, hn, hst, Po, hM, hP⟩ := cp_come (d := d) htr (xs (nI i + nI 1).toNatClampNeg) hA hR hJ h5
  obtain ⟨hc, hs, hB2⟩ := hst rem cb sb hB
  refine gh_aload_n C dW_452 rfl ?_
  refine gh_aload_n C dW_453 rfl ?_
  refine gh_iload C dW_454 rfl ?_
  refine gh_iconst C (nI 1) dW_456 (by decide) ?_
  refine gh_iadd C dW_457 ?_
  refine gh_sld C hX (in_k (show i + 1 < L by omega) hL) dW_458 ?_
  refine gh_aload_n C dW_459 rfl ?_
  refine gh_callSW C hZ [.ref (Z 1 0), .int (xs (nI i + nI 1).toNatClampNeg), .ref ao] hM (show Cond.methodLink "RatchetGroupLaw" 65 mL_come.1 ∈ gh_T from gh_in 714 (by decide +kernel) rfl) hw_come rfl rfl (Nat.le_of_ble_eq_true rfl) ⟨Nat.le_of_ble_eq_true rfl, Nat.le_of_ble_eq_true rfl⟩ hc hs dW_460 (fun v g1 hp => ?_)
  obtain ⟨rfl, ⟨y1, R1, hy1, hR1⟩, Po2, hM2, hP2⟩ := hP v g1 hp
  refine gh_istore C [some (.ref b), some (.ref (Z 1 0)), some (.ref (y 0)), some (.ref ao), some (.int (nI i)), some (.int k), k6] dW_463 rfl (Nat.le_of_ble_eq_true rfl) ?_
  refine gh_aload_n C dW_465 rfl ?_
  refine gh_aload_n C dW_466 rfl ?_
  refine gh_iload C dW_467 rfl ?_
  refine gh_iconst C (nI 1) dW_469 (by decide) ?_
  refine gh_iadd C dW_470 ?_
  refine gh_sld C hX (in_k (show i + 1 < L by omega) hL) dW_471 ?_
  have hy30 : g1 (30, 0) = some (y 0, .inr (7, rO y1 R1)) := by rw [← hy1]; exact hR1.1
  refine gh_callV C [.int (xs (nI i + nI 1).toNatClampNeg)] hM2 lL_67 wR_come vR_come hy30 rfl rfl rfl (Nat.le_of_ble_eq_true rfl) ⟨by show n + 1 ≤ 2048; omega, by have h9 : mR_come.2.2.1 ≤ 40 := (by decide); show 8 + (mR_come.2.2.1 + 11) + 40 * n ≤ 84000; omega⟩ (Nat.zero_le _) (Nat.zero_le _) dW_472 (fun v2 g2 hp2 => ?_)
  obtain ⟨w, rfl, hCE⟩ := hP2 v2 g2 hp2
  have hLI2 := hCE.LI
  obtain ⟨Z2, y2, R2, f2, d1, d2, hA2, hR2, hJ2, h52, hk2, hw2⟩ := hCE
  refine gh_istore C [some (.ref b), some (.ref (Z 1 0)), some (.ref (y 0)), some (.ref ao), some (.int (nI i)), some (.int k), some (.int w)] dW_475 rfl (Nat.le_of_ble_eq_true rfl) ?_
  refine gh_aload_n C dW_477 rfl ?_
  have hy31 : g2 (30, 0) = some (y 0, .inr (7, rO y2 R2)) := by rw [← d2]; exact hR2.1
  refine gh_callV C [] (by rw [← d2]; exact r_thrown l d g2 hR2) lL_47 wR_thrown vR_thrown hy31 rfl rfl rfl (Nat.le_of_ble_eq_true rfl) ⟨Nat.le_of_ble_eq_true rfl, Nat.le_of_ble_eq_true rfl⟩ (Nat.zero_le _) (Nat.zero_le _) dW_478 (fun v3 g3 hp3 => ?_)
  obtain ⟨rfl, rfl⟩ := hp3
  refine gh_iload C dW_481 rfl ?_
  refine gh_icmp_eq C 488 dW_483 (by decide) (fun _ => ?_) (fun h9 => absurd hk2 h9)
  refine gh_iload C dW_488 rfl ?_
  refine gh_less C (cb - c) (sb - s) (Nat.le_refl _) (Nat.le_refl _) ?_
  have last : gh_W l d z 505 [some (.ref b), some (.ref (Z 1 0)), some (.ref (y 0)), some (.ref ao), some (.int (nI i)), some (.int k), some (.int w)] [] g3 (cb - c) (sb - s) := gh_goto C 850 dW_505 (by decide) (next g3 S2 _ _ _ _ hLI2 hB2)
  refine gh_if_ne C 505 dW_490 (by decide) (fun _ => last) (fun h0 => ?_)
  refine gh_aload_n C dW_493 rfl ?_
  refine gh_iconst C 0 dW_494 (by decide) ?_
  refine gh_lald C (K := (50, 0)) (t := 3) h52 rfl (by unfold vp_in; decide) dW_495 ?_
  refine gh_iload C dW_496 rfl ?_
  refine gh_i2l C dW_498 ?_
  refine gh_lcmp C dW_499 ?_
  rw [hw2 h0, lcmp_s]
  refine gh_if_eq C 505 dW_500 (by decide) (fun _ => last) (fun h9 => absurd rfl h9)
set_option maxRecDepth 100000 in
set_option maxHeartbeats 4000000 in
theorem lw_c6 (C : gh_X d z (lwM nm) room_1) (hZ : gh_ZC d z) (hX : gh_SX d z b L xs) (hL : L ≤ 2048) (hi : i + 4 ≤ L) (htr : l.flags = pinnedFlags ++ [noTraceFlag]) (h : LI ax ay ao g S) (hB : LB S (rem + 1) cb sb) (next : ∀ (g2 : gh_H) (S2 : SC) (c2 s2 : Nat) (q5 q6 : Option Value), LI ax ay ao g2 S2 → LB S2 rem c2 s2 → gh_W l d z 850 [some (.ref b), some (.ref ax), some (.ref ay), some (.ref ao), some (.int (nI i)), q5, q6] [] g2 c2 s2) : gh_W l d z 508 [some (.ref b), some (.ref ax), some (.ref ay), some (.ref ao), some (.int (nI i)), k5, k6] [] g cb sb := by
  obtain ⟨Z, y, R, f0, e1, e2, hA, hR, hJ, h5⟩ := h
  subst e1; subst e2
  obtain ⟨c, s, k, n, S2, hn, hst, Po, hM, hP⟩ := cp_compromise (d := d) htr (xs (nI i + nI 1).toNatClampNeg) hA hR hJ h5
  obtain ⟨hc, hs, hB2⟩ := hst rem cb sb hB
  refine gh_aload_n C dW_508 rfl ?_
  refine gh_aload_n C dW_509 rfl ?_
  refine gh_iload C dW_510 rfl ?_
  refine gh_iconst C (nI 1) dW_512 (by decide) ?_
  refine gh_iadd C dW_513 ?_
  refine gh_sld C hX (in_k (show i + 1 < L by omega) hL) dW_514 ?_
  refine gh_aload_n C dW_515 rfl ?_
  refine gh_callSW C hZ [.ref (Z 1 0), .int (xs (nI i + nI 1).toNatClampNeg), .ref ao] hM (show Cond.methodLink "RatchetGroupLaw" 68 mL_compromise.1 ∈ gh_T from gh_in 741 (by decide +kernel) rfl) hw_compromise rfl rfl (Nat.le_of_ble_eq_true rfl) ⟨Nat.le_of_ble_eq_true rfl, Nat.le_of_ble_eq_true rfl⟩ hc hs dW_516 (fun v g1 hp => ?_)
  obtain ⟨rfl, ⟨y1, R1, hy1, hR1⟩, Po2, hM2, hP2⟩ := hP v g1 hp
  refine gh_istore C [some (.ref b), some (.ref (Z 1 0)), some (.ref (y 0)), some (.ref ao), some (.int (nI i)), some (.int k), k6] dW_519 rfl (Nat.le_of_ble_eq_true rfl) ?_
  refine gh_aload_n C dW_521 rfl ?_
  refine gh_aload_n C dW_522 rfl ?_
  refine gh_iload C dW_523 rfl ?_
  refine gh_iconst C (nI 1) dW_525 (by decide) ?_
  refine gh_iadd C dW_526 ?_
  refine gh_sld C hX (in_k (show i + 1 < L by omega) hL) dW_527 ?_
  have hy30 : g1 (30, 0) = some (y 0, .inr (7, rO y1 R1)) := by rw [← hy1]; exact hR1.1
  refine gh_callV C [.int (xs (nI i + nI 1).toNatClampNeg)] hM2 lL_70 wR_compromise vR_compromise hy30 rfl rfl rfl (Nat.le_of_ble_eq_true rfl) ⟨by show n + 1 ≤ 2048; omega, by have h9 : mR_compromise.2.2.1 ≤ 40 := (by decide); show 8 + (mR_compromise.2.2.1 + 11) + 40 * n ≤ 84000; omega⟩ (Nat.zero_le _) (Nat.zero_le _) dW_528 (fun v2 g2 hp2 => ?_)
  obtain ⟨w, rfl, hCE⟩ := hP2 v2 g2 hp2
  have hLI2 := hCE.LI
  obtain ⟨Z2, y2, R2, f2, d1, d2, hA2, hR2, hJ2, h52, hk2, hw2⟩ := hCE
  refine gh_istore C [some (.ref b), some (.ref (Z 1 0)), some (.ref (y 0)), some (.ref ao), some (.int (nI i)), some (.int k), some (.int w)] dW_531 rfl (Nat.le_of_ble_eq_true rfl) ?_
  refine gh_aload_n C dW_533 rfl ?_
  have hy31 : g2 (30, 0) = some (y 0, .inr (7, rO y2 R2)) := by rw [← d2]; exact hR2.1
  refine gh_callV C [] (by rw [← d2]; exact r_thrown l d g2 hR2) lL_47 wR_thrown vR_thrown hy31 rfl rfl rfl (Nat.le_of_ble_eq_true rfl) ⟨Nat.le_of_ble_eq_true rfl, Nat.le_of_ble_eq_true rfl⟩ (Nat.zero_le _) (Nat.zero_le _) dW_534 (fun v3 g3 hp3 => ?_)
  obtain ⟨rfl, rfl⟩ := hp3
  refine gh_iload C dW_537 rfl ?_
  refine gh_icmp_eq C 544 dW_539 (by decide) (fun _ => ?_) (fun h9 => absurd hk2 h9)
  refine gh_iload C dW_544 rfl ?_
  refine gh_less C (cb - c) (sb - s) (Nat.le_refl _) (Nat.le_refl _) ?_
  have last : gh_W l d z 561 [some (.ref b), some (.ref (Z 1 0)), some (.ref (y 0)), some (.ref ao), some (.int (nI i)), some (.int k), some (.int w)] [] g3 (cb - c) (sb - s) := gh_goto C 850 dW_561 (by decide) (next g3 S2 _ _ _ _ hLI2 hB2)
  refine gh_if_ne C 561 dW_546 (by decide) (fun _ => last) (fun h0 => ?_)
  refine gh_aload_n C dW_549 rfl ?_
  refine gh_iconst C 0 dW_550 (by decide) ?_
  refine gh_lald C (K := (50, 0)) (t := 3) h52 rfl (by unfold vp_in; decide) dW_551 ?_
  refine gh_iload C dW_552 rfl ?_
  refine gh_i2l C dW_554 ?_
  refine gh_lcmp C dW_555 ?_
  rw [hw2 h0, lcmp_s]
  refine gh_if_eq C 561 dW_556 (by decide) (fun _ => last) (fun h9 => absurd rfl h9)
set_option maxRecDepth 100000 in
set_option maxHeartbeats 4000000 in
theorem lw_c7 (C : gh_X d z (lwM nm) room_1) (hZ : gh_ZC d z) (hX : gh_SX d z b L xs) (hL : L ≤ 2048) (hi : i + 4 ≤ L) (h : LI ax ay ao g S) (hB : LB S (rem + 1) cb sb) (next : ∀ (g2 : gh_H) (S2 : SC) (c2 s2 : Nat) (q5 q6 : Option Value), LI ax ay ao g2 S2 → LB S2 rem c2 s2 → gh_W l d z 850 [some (.ref b), some (.ref ax), some (.ref ay), some (.ref ao), some (.int (nI i)), q5, q6] [] g2 c2 s2) : gh_W l d z 564 [some (.ref b), some (.ref ax), some (.ref ay), some (.ref ao), some (.int (nI i)), k5, k6] [] g cb sb := by
  obtain ⟨a, n, n2, hn, hn2, ⟨Po, hM, hP⟩, hq⟩ := q_member (l := l) (d := d) (xs (nI i + nI 1).toNatClampNeg) (xs (nI i + nI 2).toNatClampNeg) h
  have hB2 : LB S rem cb sb := ⟨by have := hB.1; omega, by have := hB.2; omega⟩
  obtain ⟨Z, y, R, f0, e1, e2, hA, hR, hJ, h5⟩ := h
  have hx0 : ∃ fs, g (1, 0) = some (ax, .inr (0, fs)) := by rw [← e1]; exact ⟨_, hA.1⟩
  obtain ⟨fs, hx1⟩ := hx0
  refine gh_aload_n C dW_564 rfl ?_
  refine gh_aload_n C dW_565 rfl ?_
  refine gh_iload C dW_566 rfl ?_
  refine gh_iconst C (nI 1) dW_568 (by decide) ?_
  refine gh_iadd C dW_569 ?_
  refine gh_sld C hX (in_k (show i + 1 < L by omega) hL) dW_570 ?_
  refine gh_aload_n C dW_571 rfl ?_
  refine gh_iload C dW_572 rfl ?_
  refine gh_iconst C (nI 2) dW_574 (by decide) ?_
  refine gh_iadd C dW_575 ?_
  refine gh_sld C hX (in_k (show i + 2 < L by omega) hL) dW_576 ?_
  refine gh_callV C [.int (xs (nI i + nI 1).toNatClampNeg), .int (xs (nI i + nI 2).toNatClampNeg)] hM lL_71 wG_member vG_member hx1 rfl rfl rfl (Nat.le_of_ble_eq_true rfl) ⟨by show n + 1 ≤ 2048; omega, by have h9 : mG_member.2.2.1 ≤ 40 := (by decide); show 8 + (mG_member.2.2.1 + 11) + 40 * n ≤ 84000; omega⟩ (Nat.zero_le _) (Nat.zero_le _) dW_577 (fun v g1 hp => ?_)
  obtain ⟨rfl, hI1⟩ := hP v g1 hp
  obtain ⟨Po2, hM2, hP2⟩ := hq g1 hI1
  obtain ⟨Z1, y1, R1, f1, d1, d2, hA1, hR1, hJ1, h51⟩ := hI1
  have hy30 : g1 (30, 0) = some (ay, .inr (7, rO y1 R1)) := by rw [← d2]; exact hR1.1
  refine gh_aload_n C dW_580 rfl ?_
  refine gh_aload_n C dW_581 rfl ?_
  refine gh_iload C dW_582 rfl ?_
  refine gh_iconst C (nI 1) dW_584 (by decide) ?_
  refine gh_iadd C dW_585 ?_
  refine gh_sld C hX (in_k (show i + 1 < L by omega) hL) dW_586 ?_
  refine gh_aload_n C dW_587 rfl ?_
  refine gh_iload C dW_588 rfl ?_
  refine gh_iconst C (nI 2) dW_590 (by decide) ?_
  refine gh_iadd C dW_591 ?_
  refine gh_sld C hX (in_k (show i + 2 < L by omega) hL) dW_592 ?_
  refine gh_callV C [.int (xs (nI i + nI 1).toNatClampNeg), .int (xs (nI i + nI 2).toNatClampNeg)] hM2 lL_74 wR_member vR_member hy30 rfl rfl rfl (Nat.le_of_ble_eq_true rfl) ⟨by show n2 + 1 ≤ 2048; omega, by have h9 : mR_member.2.2.1 ≤ 40 := (by decide); show 8 + (mR_member.2.2.1 + 11) + 40 * n2 ≤ 84000; omega⟩ (Nat.zero_le _) (Nat.zero_le _) dW_593 (fun v2 g2 hp2 => ?_)
  obtain ⟨rfl, hI2⟩ := hP2 v2 g2 hp2
  refine gh_icmp_eq C 850 dW_596 (by decide) (fun _ => ?_) (fun h9 => absurd rfl h9)
  exact next g2 S _ _ _ _ hI2 hB2
set_option maxRecDepth 100000 in
set_option maxHeartbeats 4000000 in
theorem lw_c8 (C : gh_X d z (lwM nm) room_1) (hZ : gh_ZC d z) (hX : gh_SX d z b L xs) (hL : L ≤ 2048) (hi : i + 4 ≤ L) (h : LI ax ay ao g S) (hB : LB S (rem + 1) cb sb) (next : ∀ (g2 : gh_H) (S2 : SC) (c2 s2 : Nat) (q5 q6 : Option Value), LI ax ay ao g2 S2 → LB S2 rem c2 s2 → gh_W l d z 850 [some (.ref b), some (.ref ax), some (.ref ay), some (.ref ao), some (.int (nI i)), q5, q6] [] g2 c2 s2) : gh_W l d z 601 [some (.ref b), some (.ref ax), some (.ref ay), some (.ref ao), some (.int (nI i)), k5, k6] [] g cb sb := by
  obtain ⟨a, n, n2, hn, hn2, ⟨Po, hM, hP⟩, hq⟩ := q_holds (l := l) (d := d) (xs (nI i + nI 1).toNatClampNeg) (xs (nI i + nI 2).toNatClampNeg) h
  have hB2 : LB S rem cb sb := ⟨by have := hB.1; omega, by have := hB.2; omega⟩
  obtain ⟨Z, y, R, f0, e1, e2, hA, hR, hJ, h5⟩ := h
  have hx0 : ∃ fs, g (1, 0) = some (ax, .inr (0, fs)) := by rw [← e1]; exact ⟨_, hA.1⟩
  obtain ⟨fs, hx1⟩ := hx0
  refine gh_aload_n C dW_601 rfl ?_
  refine gh_aload_n C dW_602 rfl ?_
  refine gh_iload C dW_603 rfl ?_
  refine gh_iconst C (nI 1) dW_605 (by decide) ?_
  refine gh_iadd C dW_606 ?_
  refine gh_sld C hX (in_k (show i + 1 < L by omega) hL) dW_607 ?_
  refine gh_aload_n C dW_608 rfl ?_
  refine gh_iload C dW_609 rfl ?_
  refine gh_iconst C (nI 2) dW_611 (by decide) ?_
  refine gh_iadd C dW_612 ?_
  refine gh_sld C hX (in_k (show i + 2 < L by omega) hL) dW_613 ?_
  refine gh_callV C [.int (xs (nI i + nI 1).toNatClampNeg), .int (xs (nI i + nI 2).toNatClampNeg)] hM lL_75 wG_holds vG_holds hx1 rfl rfl rfl (Nat.le_of_ble_eq_true rfl) ⟨by show n + 1 ≤ 2048; omega, by have h9 : mG_holds.2.2.1 ≤ 40 := (by decide); show 8 + (mG_holds.2.2.1 + 11) + 40 * n ≤ 84000; omega⟩ (Nat.zero_le _) (Nat.zero_le _) dW_614 (fun v g1 hp => ?_)
  obtain ⟨rfl, hI1⟩ := hP v g1 hp
  obtain ⟨Po2, hM2, hP2⟩ := hq g1 hI1
  obtain ⟨Z1, y1, R1, f1, d1, d2, hA1, hR1, hJ1, h51⟩ := hI1
  have hy30 : g1 (30, 0) = some (ay, .inr (7, rO y1 R1)) := by rw [← d2]; exact hR1.1
  refine gh_aload_n C dW_617 rfl ?_
  refine gh_aload_n C dW_618 rfl ?_
  refine gh_iload C dW_619 rfl ?_
  refine gh_iconst C (nI 1) dW_621 (by decide) ?_
  refine gh_iadd C dW_622 ?_
  refine gh_sld C hX (in_k (show i + 1 < L by omega) hL) dW_623 ?_
  refine gh_aload_n C dW_624 rfl ?_
  refine gh_iload C dW_625 rfl ?_
  refine gh_iconst C (nI 2) dW_627 (by decide) ?_
  refine gh_iadd C dW_628 ?_
  refine gh_sld C hX (in_k (show i + 2 < L by omega) hL) dW_629 ?_
  refine gh_callV C [.int (xs (nI i + nI 1).toNatClampNeg), .int (xs (nI i + nI 2).toNatClampNeg)] hM2 lL_79 wR_holds vR_holds hy30 rfl rfl rfl (Nat.le_of_ble_eq_true rfl) ⟨by show n2 + 1 ≤ 2048; omega, by have h9 : mR_holds.2.2.1 ≤ 40 := (by decide); show 8 + (mR_holds.2.2.1 + 11) + 40 * n2 ≤ 84000; omega⟩ (Nat.zero_le _) (Nat.zero_le _) dW_630 (fun v2 g2 hp2 => ?_)
  obtain ⟨rfl, hI2⟩ := hP2 v2 g2 hp2
  refine gh_icmp_eq C 850 dW_633 (by decide) (fun _ => ?_) (fun h9 => absurd rfl h9)
  exact next g2 S _ _ _ _ hI2 hB2
set_option maxRecDepth 100000 in
set_option maxHeartbeats 4000000 in
theorem lw_c9 (C : gh_X d z (lwM nm) room_1) (hZ : gh_ZC d z) (hX : gh_SX d z b L xs) (hL : L ≤ 2048) (hi : i + 4 ≤ L) (h : LI ax ay ao g S) (hB : LB S (rem + 1) cb sb) (next : ∀ (g2 : gh_H) (S2 : SC) (c2 s2 : Nat) (q5 q6 : Option Value), LI ax ay ao g2 S2 → LB S2 rem c2 s2 → gh_W l d z 850 [some (.ref b), some (.ref ax), some (.ref ay), some (.ref ao), some (.int (nI i)), q5, q6] [] g2 c2 s2) : gh_W l d z 638 [some (.ref b), some (.ref ax), some (.ref ay), some (.ref ao), some (.int (nI i)), k5, k6] [] g cb sb := by
  obtain ⟨a, n, n2, hn, hn2, ⟨Po, hM, hP⟩, hq⟩ := q_has (l := l) (d := d) (xs (nI i + nI 1).toNatClampNeg) h
  have hB2 : LB S rem cb sb := ⟨by have := hB.1; omega, by have := hB.2; omega⟩
  obtain ⟨Z, y, R, f0, e1, e2, hA, hR, hJ, h5⟩ := h
  have hx0 : ∃ fs, g (1, 0) = some (ax, .inr (0, fs)) := by rw [← e1]; exact ⟨_, hA.1⟩
  obtain ⟨fs, hx1⟩ := hx0
  refine gh_aload_n C dW_638 rfl ?_
  refine gh_aload_n C dW_639 rfl ?_
  refine gh_iload C dW_640 rfl ?_
  refine gh_iconst C (nI 1) dW_642 (by decide) ?_
  refine gh_iadd C dW_643 ?_
  refine gh_sld C hX (in_k (show i + 1 < L by omega) hL) dW_644 ?_
  refine gh_callV C [.int (xs (nI i + nI 1).toNatClampNeg)] hM lL_80 wG_has vG_has hx1 rfl rfl rfl (Nat.le_of_ble_eq_true rfl) ⟨by show n + 1 ≤ 2048; omega, by have h9 : mG_has.2.2.1 ≤ 40 := (by decide); show 8 + (mG_has.2.2.1 + 11) + 40 * n ≤ 84000; omega⟩ (Nat.zero_le _) (Nat.zero_le _) dW_645 (fun v g1 hp => ?_)
  obtain ⟨rfl, hI1⟩ := hP v g1 hp
  obtain ⟨Po2, hM2, hP2⟩ := hq g1 hI1
  obtain ⟨Z1, y1, R1, f1, d1, d2, hA1, hR1, hJ1, h51⟩ := hI1
  have hy30 : g1 (30, 0) = some (ay, .inr (7, rO y1 R1)) := by rw [← d2]; exact hR1.1
  refine gh_aload_n C dW_648 rfl ?_
  refine gh_aload_n C dW_649 rfl ?_
  refine gh_iload C dW_650 rfl ?_
  refine gh_iconst C (nI 1) dW_652 (by decide) ?_
  refine gh_iadd C dW_653 ?_
  refine gh_sld C hX (in_k (show i + 1 < L by omega) hL) dW_654 ?_
  refine gh_callV C [.int (xs (nI i + nI 1).toNatClampNeg)] hM2 lL_84 wR_has vR_has hy30 rfl rfl rfl (Nat.le_of_ble_eq_true rfl) ⟨by show n2 + 1 ≤ 2048; omega, by have h9 : mR_has.2.2.1 ≤ 40 := (by decide); show 8 + (mR_has.2.2.1 + 11) + 40 * n2 ≤ 84000; omega⟩ (Nat.zero_le _) (Nat.zero_le _) dW_655 (fun v2 g2 hp2 => ?_)
  obtain ⟨rfl, hI2⟩ := hP2 v2 g2 hp2
  refine gh_icmp_eq C 850 dW_658 (by decide) (fun _ => ?_) (fun h9 => absurd rfl h9)
  exact next g2 S _ _ _ _ hI2 hB2
set_option maxRecDepth 100000 in
set_option maxHeartbeats 4000000 in
theorem lw_c10 (C : gh_X d z (lwM nm) room_1) (hZ : gh_ZC d z) (hX : gh_SX d z b L xs) (hL : L ≤ 2048) (hi : i + 4 ≤ L) (h : LI ax ay ao g S) (hB : LB S (rem + 1) cb sb) (next : ∀ (g2 : gh_H) (S2 : SC) (c2 s2 : Nat) (q5 q6 : Option Value), LI ax ay ao g2 S2 → LB S2 rem c2 s2 → gh_W l d z 850 [some (.ref b), some (.ref ax), some (.ref ay), some (.ref ao), some (.int (nI i)), q5, q6] [] g2 c2 s2) : gh_W l d z 663 [some (.ref b), some (.ref ax), some (.ref ay), some (.ref ao), some (.int (nI i)), k5, k6] [] g cb sb := by
  obtain ⟨a, n, n2, hn, hn2, ⟨Po, hM, hP⟩, hq⟩ := q_node (l := l) (d := d) (xs (nI i + nI 1).toNatClampNeg) (xs (nI i + nI 2).toNatClampNeg) (xs (nI i + nI 3).toNatClampNeg) h
  have hB2 : LB S rem cb sb := ⟨by have := hB.1; omega, by have := hB.2; omega⟩
  obtain ⟨Z, y, R, f0, e1, e2, hA, hR, hJ, h5⟩ := h
  have hx0 : ∃ fs, g (1, 0) = some (ax, .inr (0, fs)) := by rw [← e1]; exact ⟨_, hA.1⟩
  obtain ⟨fs, hx1⟩ := hx0
  refine gh_aload_n C dW_663 rfl ?_
  refine gh_aload_n C dW_664 rfl ?_
  refine gh_iload C dW_665 rfl ?_
  refine gh_iconst C (nI 1) dW_667 (by decide) ?_
  refine gh_iadd C dW_668 ?_
  refine gh_sld C hX (in_k (show i + 1 < L by omega) hL) dW_669 ?_
  refine gh_aload_n C dW_670 rfl ?_
  refine gh_iload C dW_671 rfl ?_
  refine gh_iconst C (nI 2) dW_673 (by decide) ?_
  refine gh_iadd C dW_674 ?_
  refine gh_sld C hX (in_k (show i + 2 < L by omega) hL) dW_675 ?_
  refine gh_aload_n C dW_676 rfl ?_
  refine gh_iload C dW_677 rfl ?_
  refine gh_iconst C (nI 3) dW_679 (by decide) ?_
  refine gh_iadd C dW_680 ?_
  refine gh_sld C hX (in_k (show i + 3 < L by omega) hL) dW_681 ?_
  refine gh_callV C [.int (xs (nI i + nI 1).toNatClampNeg), .int (xs (nI i + nI 2).toNatClampNeg), .int (xs (nI i + nI 3).toNatClampNeg)] hM lL_85 wG_node vG_node hx1 rfl rfl rfl (Nat.le_of_ble_eq_true rfl) ⟨by show n + 1 ≤ 2048; omega, by have h9 : mG_node.2.2.1 ≤ 40 := (by decide); show 8 + (mG_node.2.2.1 + 11) + 40 * n ≤ 84000; omega⟩ (Nat.zero_le _) (Nat.zero_le _) dW_682 (fun v g1 hp => ?_)
  obtain ⟨rfl, hI1⟩ := hP v g1 hp
  obtain ⟨Po2, hM2, hP2⟩ := hq g1 hI1
  obtain ⟨Z1, y1, R1, f1, d1, d2, hA1, hR1, hJ1, h51⟩ := hI1
  have hy30 : g1 (30, 0) = some (ay, .inr (7, rO y1 R1)) := by rw [← d2]; exact hR1.1
  refine gh_aload_n C dW_685 rfl ?_
  refine gh_aload_n C dW_686 rfl ?_
  refine gh_iload C dW_687 rfl ?_
  refine gh_iconst C (nI 1) dW_689 (by decide) ?_
  refine gh_iadd C dW_690 ?_
  refine gh_sld C hX (in_k (show i + 1 < L by omega) hL) dW_691 ?_
  refine gh_aload_n C dW_692 rfl ?_
  refine gh_iload C dW_693 rfl ?_
  refine gh_iconst C (nI 2) dW_695 (by decide) ?_
  refine gh_iadd C dW_696 ?_
  refine gh_sld C hX (in_k (show i + 2 < L by omega) hL) dW_697 ?_
  refine gh_aload_n C dW_698 rfl ?_
  refine gh_iload C dW_699 rfl ?_
  refine gh_iconst C (nI 3) dW_701 (by decide) ?_
  refine gh_iadd C dW_702 ?_
  refine gh_sld C hX (in_k (show i + 3 < L by omega) hL) dW_703 ?_
  refine gh_callV C [.int (xs (nI i + nI 1).toNatClampNeg), .int (xs (nI i + nI 2).toNatClampNeg), .int (xs (nI i + nI 3).toNatClampNeg)] hM2 lL_89 wR_node vR_node hy30 rfl rfl rfl (Nat.le_of_ble_eq_true rfl) ⟨by show n2 + 1 ≤ 2048; omega, by have h9 : mR_node.2.2.1 ≤ 40 := (by decide); show 8 + (mR_node.2.2.1 + 11) + 40 * n2 ≤ 84000; omega⟩ (Nat.zero_le _) (Nat.zero_le _) dW_704 (fun v2 g2 hp2 => ?_)
  obtain ⟨rfl, hI2⟩ := hP2 v2 g2 hp2
  refine gh_icmp_eq C 850 dW_707 (by decide) (fun _ => ?_) (fun h9 => absurd rfl h9)
  exact next g2 S _ _ _ _ hI2 hB2
set_option maxRecDepth 100000 in
set_option maxHeartbeats 4000000 in
theorem lw_c11 (C : gh_X d z (lwM nm) room_1) (hZ : gh_ZC d z) (hX : gh_SX d z b L xs) (hL : L ≤ 2048) (hi : i + 4 ≤ L) (h : LI ax ay ao g S) (hB : LB S (rem + 1) cb sb) (next : ∀ (g2 : gh_H) (S2 : SC) (c2 s2 : Nat) (q5 q6 : Option Value), LI ax ay ao g2 S2 → LB S2 rem c2 s2 → gh_W l d z 850 [some (.ref b), some (.ref ax), some (.ref ay), some (.ref ao), some (.int (nI i)), q5, q6] [] g2 c2 s2) : gh_W l d z 712 [some (.ref b), some (.ref ax), some (.ref ay), some (.ref ao), some (.int (nI i)), k5, k6] [] g cb sb := by
  obtain ⟨a, n, n2, hn, hn2, ⟨Po, hM, hP⟩, hq⟩ := q_epoch (l := l) (d := d) (xs (nI i + nI 1).toNatClampNeg) (xs (nI i + nI 2).toNatClampNeg) h
  have hB2 : LB S rem cb sb := ⟨by have := hB.1; omega, by have := hB.2; omega⟩
  obtain ⟨Z, y, R, f0, e1, e2, hA, hR, hJ, h5⟩ := h
  have hx0 : ∃ fs, g (1, 0) = some (ax, .inr (0, fs)) := by rw [← e1]; exact ⟨_, hA.1⟩
  obtain ⟨fs, hx1⟩ := hx0
  refine gh_aload_n C dW_712 rfl ?_
  refine gh_aload_n C dW_713 rfl ?_
  refine gh_iload C dW_714 rfl ?_
  refine gh_iconst C (nI 1) dW_716 (by decide) ?_
  refine gh_iadd C dW_717 ?_
  refine gh_sld C hX (in_k (show i + 1 < L by omega) hL) dW_718 ?_
  refine gh_aload_n C dW_719 rfl ?_
  refine gh_iload C dW_720 rfl ?_
  refine gh_iconst C (nI 2) dW_722 (by decide) ?_
  refine gh_iadd C dW_723 ?_
  refine gh_sld C hX (in_k (show i + 2 < L by omega) hL) dW_724 ?_
  refine gh_callV C [.int (xs (nI i + nI 1).toNatClampNeg), .int (xs (nI i + nI 2).toNatClampNeg)] hM lL_90 wG_epoch vG_epoch hx1 rfl rfl rfl (Nat.le_of_ble_eq_true rfl) ⟨by show n + 1 ≤ 2048; omega, by have h9 : mG_epoch.2.2.1 ≤ 40 := (by decide); show 8 + (mG_epoch.2.2.1 + 11) + 40 * n ≤ 84000; omega⟩ (Nat.zero_le _) (Nat.zero_le _) dW_725 (fun v g1 hp => ?_)
  obtain ⟨rfl, hI1⟩ := hP v g1 hp
  obtain ⟨Po2, hM2, hP2⟩ := hq g1 hI1
  obtain ⟨Z1, y1, R1, f1, d1, d2, hA1, hR1, hJ1, h51⟩ := hI1
  have hy30 : g1 (30, 0) = some (ay, .inr (7, rO y1 R1)) := by rw [← d2]; exact hR1.1
  refine gh_aload_n C dW_728 rfl ?_
  refine gh_aload_n C dW_729 rfl ?_
  refine gh_iload C dW_730 rfl ?_
  refine gh_iconst C (nI 1) dW_732 (by decide) ?_
  refine gh_iadd C dW_733 ?_
  refine gh_sld C hX (in_k (show i + 1 < L by omega) hL) dW_734 ?_
  refine gh_aload_n C dW_735 rfl ?_
  refine gh_iload C dW_736 rfl ?_
  refine gh_iconst C (nI 2) dW_738 (by decide) ?_
  refine gh_iadd C dW_739 ?_
  refine gh_sld C hX (in_k (show i + 2 < L by omega) hL) dW_740 ?_
  refine gh_callV C [.int (xs (nI i + nI 1).toNatClampNeg), .int (xs (nI i + nI 2).toNatClampNeg)] hM2 lL_93 wR_epoch vR_epoch hy30 rfl rfl rfl (Nat.le_of_ble_eq_true rfl) ⟨by show n2 + 1 ≤ 2048; omega, by have h9 : mR_epoch.2.2.1 ≤ 40 := (by decide); show 8 + (mR_epoch.2.2.1 + 11) + 40 * n2 ≤ 84000; omega⟩ (Nat.zero_le _) (Nat.zero_le _) dW_741 (fun v2 g2 hp2 => ?_)
  obtain ⟨rfl, hI2⟩ := hP2 v2 g2 hp2
  refine gh_icmp_eq C 850 dW_744 (by decide) (fun _ => ?_) (fun h9 => absurd rfl h9)
  exact next g2 S _ _ _ _ hI2 hB2
set_option maxRecDepth 100000 in
set_option maxHeartbeats 4000000 in
theorem lw_c12 (C : gh_X d z (lwM nm) room_1) (hZ : gh_ZC d z) (hX : gh_SX d z b L xs) (hL : L ≤ 2048) (hi : i + 4 ≤ L) (h : LI ax ay ao g S) (hB : LB S (rem + 1) cb sb) (next : ∀ (g2 : gh_H) (S2 : SC) (c2 s2 : Nat) (q5 q6 : Option Value), LI ax ay ao g2 S2 → LB S2 rem c2 s2 → gh_W l d z 850 [some (.ref b), some (.ref ax), some (.ref ay), some (.ref ao), some (.int (nI i)), q5, q6] [] g2 c2 s2) : gh_W l d z 749 [some (.ref b), some (.ref ax), some (.ref ay), some (.ref ao), some (.int (nI i)), k5, k6] [] g cb sb := by
  obtain ⟨a, n, n2, hn, hn2, ⟨Po, hM, hP⟩, hq⟩ := q_epochs (l := l) (d := d)  h
  have hB2 : LB S rem cb sb := ⟨by have := hB.1; omega, by have := hB.2; omega⟩
  obtain ⟨Z, y, R, f0, e1, e2, hA, hR, hJ, h5⟩ := h
  have hx0 : ∃ fs, g (1, 0) = some (ax, .inr (0, fs)) := by rw [← e1]; exact ⟨_, hA.1⟩
  obtain ⟨fs, hx1⟩ := hx0
  refine gh_aload_n C dW_749 rfl ?_
  refine gh_callV C [] hM lL_94 wG_epochs vG_epochs hx1 rfl rfl rfl (Nat.le_of_ble_eq_true rfl) ⟨by show n + 1 ≤ 2048; omega, by have h9 : mG_epochs.2.2.1 ≤ 40 := (by decide); show 8 + (mG_epochs.2.2.1 + 11) + 40 * n ≤ 84000; omega⟩ (Nat.zero_le _) (Nat.zero_le _) dW_750 (fun v g1 hp => ?_)
  obtain ⟨rfl, hI1⟩ := hP v g1 hp
  obtain ⟨Po2, hM2, hP2⟩ := hq g1 hI1
  obtain ⟨Z1, y1, R1, f1, d1, d2, hA1, hR1, hJ1, h51⟩ := hI1
  have hy30 : g1 (30, 0) = some (ay, .inr (7, rO y1 R1)) := by rw [← d2]; exact hR1.1
  refine gh_aload_n C dW_753 rfl ?_
  refine gh_callV C [] hM2 lL_97 wR_epochs vR_epochs hy30 rfl rfl rfl (Nat.le_of_ble_eq_true rfl) ⟨by show n2 + 1 ≤ 2048; omega, by have h9 : mR_epochs.2.2.1 ≤ 40 := (by decide); show 8 + (mR_epochs.2.2.1 + 11) + 40 * n2 ≤ 84000; omega⟩ (Nat.zero_le _) (Nat.zero_le _) dW_754 (fun v2 g2 hp2 => ?_)
  obtain ⟨rfl, hI2⟩ := hP2 v2 g2 hp2
  refine gh_icmp_eq C 850 dW_757 (by decide) (fun _ => ?_) (fun h9 => absurd rfl h9)
  exact next g2 S _ _ _ _ hI2 hB2
set_option maxRecDepth 100000 in
set_option maxHeartbeats 4000000 in
theorem lw_c13 (C : gh_X d z (lwM nm) room_1) (hZ : gh_ZC d z) (hX : gh_SX d z b L xs) (hL : L ≤ 2048) (hi : i + 4 ≤ L) (h : LI ax ay ao g S) (hB : LB S (rem + 1) cb sb) (next : ∀ (g2 : gh_H) (S2 : SC) (c2 s2 : Nat) (q5 q6 : Option Value), LI ax ay ao g2 S2 → LB S2 rem c2 s2 → gh_W l d z 850 [some (.ref b), some (.ref ax), some (.ref ay), some (.ref ao), some (.int (nI i)), q5, q6] [] g2 c2 s2) : gh_W l d z 762 [some (.ref b), some (.ref ax), some (.ref ay), some (.ref ao), some (.int (nI i)), k5, k6] [] g cb sb := by
  obtain ⟨a, n, n2, hn, hn2, ⟨Po, hM, hP⟩, hq⟩ := q_waiting (l := l) (d := d)  h
  have hB2 : LB S rem cb sb := ⟨by have := hB.1; omega, by have := hB.2; omega⟩
  obtain ⟨Z, y, R, f0, e1, e2, hA, hR, hJ, h5⟩ := h
  have hx0 : ∃ fs, g (1, 0) = some (ax, .inr (0, fs)) := by rw [← e1]; exact ⟨_, hA.1⟩
  obtain ⟨fs, hx1⟩ := hx0
  refine gh_aload_n C dW_762 rfl ?_
  refine gh_callV C [] hM lL_98 wG_waiting vG_waiting hx1 rfl rfl rfl (Nat.le_of_ble_eq_true rfl) ⟨by show n + 1 ≤ 2048; omega, by have h9 : mG_waiting.2.2.1 ≤ 40 := (by decide); show 8 + (mG_waiting.2.2.1 + 11) + 40 * n ≤ 84000; omega⟩ (Nat.zero_le _) (Nat.zero_le _) dW_763 (fun v g1 hp => ?_)
  obtain ⟨rfl, hI1⟩ := hP v g1 hp
  obtain ⟨Po2, hM2, hP2⟩ := hq g1 hI1
  obtain ⟨Z1, y1, R1, f1, d1, d2, hA1, hR1, hJ1, h51⟩ := hI1
  have hy30 : g1 (30, 0) = some (ay, .inr (7, rO y1 R1)) := by rw [← d2]; exact hR1.1
  refine gh_aload_n C dW_766 rfl ?_
  refine gh_callV C [] hM2 lL_101 wR_waiting vR_waiting hy30 rfl rfl rfl (Nat.le_of_ble_eq_true rfl) ⟨by show n2 + 1 ≤ 2048; omega, by have h9 : mR_waiting.2.2.1 ≤ 40 := (by decide); show 8 + (mR_waiting.2.2.1 + 11) + 40 * n2 ≤ 84000; omega⟩ (Nat.zero_le _) (Nat.zero_le _) dW_767 (fun v2 g2 hp2 => ?_)
  obtain ⟨rfl, hI2⟩ := hP2 v2 g2 hp2
  refine gh_icmp_eq C 850 dW_770 (by decide) (fun _ => ?_) (fun h9 => absurd rfl h9)
  exact next g2 S _ _ _ _ hI2 hB2
set_option maxRecDepth 100000 in
set_option maxHeartbeats 4000000 in
theorem lw_c14 (C : gh_X d z (lwM nm) room_1) (hZ : gh_ZC d z) (hX : gh_SX d z b L xs) (hL : L ≤ 2048) (hi : i + 4 ≤ L) (h : LI ax ay ao g S) (hB : LB S (rem + 1) cb sb) (next : ∀ (g2 : gh_H) (S2 : SC) (c2 s2 : Nat) (q5 q6 : Option Value), LI ax ay ao g2 S2 → LB S2 rem c2 s2 → gh_W l d z 850 [some (.ref b), some (.ref ax), some (.ref ay), some (.ref ao), some (.int (nI i)), q5, q6] [] g2 c2 s2) : gh_W l d z 775 [some (.ref b), some (.ref ax), some (.ref ay), some (.ref ao), some (.int (nI i)), k5, k6] [] g cb sb := by
  obtain ⟨a, n, n2, hn, hn2, ⟨Po, hM, hP⟩, hq⟩ := q_isKnown (l := l) (d := d) (xs (nI i + nI 1).toNatClampNeg) h
  have hB2 : LB S rem cb sb := ⟨by have := hB.1; omega, by have := hB.2; omega⟩
  obtain ⟨Z, y, R, f0, e1, e2, hA, hR, hJ, h5⟩ := h
  have hx0 : ∃ fs, g (1, 0) = some (ax, .inr (0, fs)) := by rw [← e1]; exact ⟨_, hA.1⟩
  obtain ⟨fs, hx1⟩ := hx0
  refine gh_aload_n C dW_775 rfl ?_
  refine gh_aload_n C dW_776 rfl ?_
  refine gh_iload C dW_777 rfl ?_
  refine gh_iconst C (nI 1) dW_779 (by decide) ?_
  refine gh_iadd C dW_780 ?_
  refine gh_sld C hX (in_k (show i + 1 < L by omega) hL) dW_781 ?_
  refine gh_callV C [.int (xs (nI i + nI 1).toNatClampNeg)] hM lL_102 wG_isKnown vG_isKnown hx1 rfl rfl rfl (Nat.le_of_ble_eq_true rfl) ⟨by show n + 1 ≤ 2048; omega, by have h9 : mG_isKnown.2.2.1 ≤ 40 := (by decide); show 8 + (mG_isKnown.2.2.1 + 11) + 40 * n ≤ 84000; omega⟩ (Nat.zero_le _) (Nat.zero_le _) dW_782 (fun v g1 hp => ?_)
  obtain ⟨rfl, hI1⟩ := hP v g1 hp
  obtain ⟨Po2, hM2, hP2⟩ := hq g1 hI1
  obtain ⟨Z1, y1, R1, f1, d1, d2, hA1, hR1, hJ1, h51⟩ := hI1
  have hy30 : g1 (30, 0) = some (ay, .inr (7, rO y1 R1)) := by rw [← d2]; exact hR1.1
  refine gh_aload_n C dW_785 rfl ?_
  refine gh_aload_n C dW_786 rfl ?_
  refine gh_iload C dW_787 rfl ?_
  refine gh_iconst C (nI 1) dW_789 (by decide) ?_
  refine gh_iadd C dW_790 ?_
  refine gh_sld C hX (in_k (show i + 1 < L by omega) hL) dW_791 ?_
  refine gh_callV C [.int (xs (nI i + nI 1).toNatClampNeg)] hM2 lL_105 wR_isKnown vR_isKnown hy30 rfl rfl rfl (Nat.le_of_ble_eq_true rfl) ⟨by show n2 + 1 ≤ 2048; omega, by have h9 : mR_isKnown.2.2.1 ≤ 40 := (by decide); show 8 + (mR_isKnown.2.2.1 + 11) + 40 * n2 ≤ 84000; omega⟩ (Nat.zero_le _) (Nat.zero_le _) dW_792 (fun v2 g2 hp2 => ?_)
  obtain ⟨rfl, hI2⟩ := hP2 v2 g2 hp2
  refine gh_icmp_eq C 850 dW_795 (by decide) (fun _ => ?_) (fun h9 => absurd rfl h9)
  exact next g2 S _ _ _ _ hI2 hB2
set_option maxRecDepth 100000 in
set_option maxHeartbeats 4000000 in
theorem lw_c15 (C : gh_X d z (lwM nm) room_1) (hZ : gh_ZC d z) (hX : gh_SX d z b L xs) (hL : L ≤ 2048) (hi : i + 4 ≤ L) (h : LI ax ay ao g S) (hB : LB S (rem + 1) cb sb) (next : ∀ (g2 : gh_H) (S2 : SC) (c2 s2 : Nat) (q5 q6 : Option Value), LI ax ay ao g2 S2 → LB S2 rem c2 s2 → gh_W l d z 850 [some (.ref b), some (.ref ax), some (.ref ay), some (.ref ao), some (.int (nI i)), q5, q6] [] g2 c2 s2) : gh_W l d z 800 [some (.ref b), some (.ref ax), some (.ref ay), some (.ref ao), some (.int (nI i)), k5, k6] [] g cb sb := by
  obtain ⟨a, n, n2, hn, hn2, ⟨Po, hM, hP⟩, hq⟩ := q_isOpen (l := l) (d := d) (xs (nI i + nI 1).toNatClampNeg) (xs (nI i + nI 2).toNatClampNeg) h
  have hB2 : LB S rem cb sb := ⟨by have := hB.1; omega, by have := hB.2; omega⟩
  obtain ⟨Z, y, R, f0, e1, e2, hA, hR, hJ, h5⟩ := h
  have hx0 : ∃ fs, g (1, 0) = some (ax, .inr (0, fs)) := by rw [← e1]; exact ⟨_, hA.1⟩
  obtain ⟨fs, hx1⟩ := hx0
  refine gh_aload_n C dW_800 rfl ?_
  refine gh_aload_n C dW_801 rfl ?_
  refine gh_iload C dW_802 rfl ?_
  refine gh_iconst C (nI 1) dW_804 (by decide) ?_
  refine gh_iadd C dW_805 ?_
  refine gh_sld C hX (in_k (show i + 1 < L by omega) hL) dW_806 ?_
  refine gh_aload_n C dW_807 rfl ?_
  refine gh_iload C dW_808 rfl ?_
  refine gh_iconst C (nI 2) dW_810 (by decide) ?_
  refine gh_iadd C dW_811 ?_
  refine gh_sld C hX (in_k (show i + 2 < L by omega) hL) dW_812 ?_
  refine gh_callV C [.int (xs (nI i + nI 1).toNatClampNeg), .int (xs (nI i + nI 2).toNatClampNeg)] hM lL_106 wG_isOpen vG_isOpen hx1 rfl rfl rfl (Nat.le_of_ble_eq_true rfl) ⟨by show n + 1 ≤ 2048; omega, by have h9 : mG_isOpen.2.2.1 ≤ 40 := (by decide); show 8 + (mG_isOpen.2.2.1 + 11) + 40 * n ≤ 84000; omega⟩ (Nat.zero_le _) (Nat.zero_le _) dW_813 (fun v g1 hp => ?_)
  obtain ⟨rfl, hI1⟩ := hP v g1 hp
  obtain ⟨Po2, hM2, hP2⟩ := hq g1 hI1
  obtain ⟨Z1, y1, R1, f1, d1, d2, hA1, hR1, hJ1, h51⟩ := hI1
  have hy30 : g1 (30, 0) = some (ay, .inr (7, rO y1 R1)) := by rw [← d2]; exact hR1.1
  refine gh_aload_n C dW_816 rfl ?_
  refine gh_aload_n C dW_817 rfl ?_
  refine gh_iload C dW_818 rfl ?_
  refine gh_iconst C (nI 1) dW_820 (by decide) ?_
  refine gh_iadd C dW_821 ?_
  refine gh_sld C hX (in_k (show i + 1 < L by omega) hL) dW_822 ?_
  refine gh_aload_n C dW_823 rfl ?_
  refine gh_iload C dW_824 rfl ?_
  refine gh_iconst C (nI 2) dW_826 (by decide) ?_
  refine gh_iadd C dW_827 ?_
  refine gh_sld C hX (in_k (show i + 2 < L by omega) hL) dW_828 ?_
  refine gh_callV C [.int (xs (nI i + nI 1).toNatClampNeg), .int (xs (nI i + nI 2).toNatClampNeg)] hM2 lL_109 wR_isOpen vR_isOpen hy30 rfl rfl rfl (Nat.le_of_ble_eq_true rfl) ⟨by show n2 + 1 ≤ 2048; omega, by have h9 : mR_isOpen.2.2.1 ≤ 40 := (by decide); show 8 + (mR_isOpen.2.2.1 + 11) + 40 * n2 ≤ 84000; omega⟩ (Nat.zero_le _) (Nat.zero_le _) dW_829 (fun v2 g2 hp2 => ?_)
  obtain ⟨rfl, hI2⟩ := hP2 v2 g2 hp2
  refine gh_icmp_eq C 850 dW_832 (by decide) (fun _ => ?_) (fun h9 => absurd rfl h9)
  exact next g2 S _ _ _ _ hI2 hB2
set_option maxRecDepth 100000 in
set_option maxHeartbeats 4000000 in
theorem lw_c16 (C : gh_X d z (lwM nm) room_1) (hZ : gh_ZC d z) (hX : gh_SX d z b L xs) (hL : L ≤ 2048) (hi : i + 4 ≤ L) (h : LI ax ay ao g S) (hB : LB S (rem + 1) cb sb) (next : ∀ (g2 : gh_H) (S2 : SC) (c2 s2 : Nat) (q5 q6 : Option Value), LI ax ay ao g2 S2 → LB S2 rem c2 s2 → gh_W l d z 850 [some (.ref b), some (.ref ax), some (.ref ay), some (.ref ao), some (.int (nI i)), q5, q6] [] g2 c2 s2) : gh_W l d z 837 [some (.ref b), some (.ref ax), some (.ref ay), some (.ref ao), some (.int (nI i)), k5, k6] [] g cb sb := by
  obtain ⟨a, n, n2, hn, hn2, ⟨Po, hM, hP⟩, hq⟩ := q_known (l := l) (d := d)  h
  have hB2 : LB S rem cb sb := ⟨by have := hB.1; omega, by have := hB.2; omega⟩
  obtain ⟨Z, y, R, f0, e1, e2, hA, hR, hJ, h5⟩ := h
  have hx0 : ∃ fs, g (1, 0) = some (ax, .inr (0, fs)) := by rw [← e1]; exact ⟨_, hA.1⟩
  obtain ⟨fs, hx1⟩ := hx0
  refine gh_aload_n C dW_837 rfl ?_
  refine gh_callV C [] hM lL_110 wG_known vG_known hx1 rfl rfl rfl (Nat.le_of_ble_eq_true rfl) ⟨by show n + 1 ≤ 2048; omega, by have h9 : mG_known.2.2.1 ≤ 40 := (by decide); show 8 + (mG_known.2.2.1 + 11) + 40 * n ≤ 84000; omega⟩ (Nat.zero_le _) (Nat.zero_le _) dW_838 (fun v g1 hp => ?_)
  obtain ⟨rfl, hI1⟩ := hP v g1 hp
  obtain ⟨Po2, hM2, hP2⟩ := hq g1 hI1
  obtain ⟨Z1, y1, R1, f1, d1, d2, hA1, hR1, hJ1, h51⟩ := hI1
  have hy30 : g1 (30, 0) = some (ay, .inr (7, rO y1 R1)) := by rw [← d2]; exact hR1.1
  refine gh_aload_n C dW_841 rfl ?_
  refine gh_callV C [] hM2 lL_113 wR_known vR_known hy30 rfl rfl rfl (Nat.le_of_ble_eq_true rfl) ⟨by show n2 + 1 ≤ 2048; omega, by have h9 : mR_known.2.2.1 ≤ 40 := (by decide); show 8 + (mR_known.2.2.1 + 11) + 40 * n2 ≤ 84000; omega⟩ (Nat.zero_le _) (Nat.zero_le _) dW_842 (fun v2 g2 hp2 => ?_)
  obtain ⟨rfl, hI2⟩ := hP2 v2 g2 hp2
  refine gh_icmp_eq C 850 dW_845 (by decide) (fun _ => ?_) (fun h9 => absurd rfl h9)
  exact next g2 S _ _ _ _ hI2 hB2
end LWC
