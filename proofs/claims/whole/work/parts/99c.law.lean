/-! THE LAW -/
theorem and31 (v : Int32) : ∃ k, k < 32 ∧ v &&& nI 31 = nI k := ⟨(v.toInt % 2 ^ 5).toNat, by omega, by
  have h := iZ_and v.toInt (k := 5) (by omega)
  rw [← iZ_of] at h; exact h⟩
theorem lw_go {n i : Nat} (hn : n ≤ 2560) (hi : i ≤ n) (h : ¬ (Int32.ofNat n - nI 5 < nI i)) : i + 5 ≤ n := by
  rw [show Int32.ofNat n = nI n from rfl, nZ n, nZ 5, nZ i, iZ_sub, iZ_lt (by omega) (by omega) (by omega) (by omega)] at h
  omega
theorem aEokL {n : Nat} {xs : Nat → Int32} : aEok (aE0 ++ [(n, xs)]) := fun i q h => by
  rw [List.getElem?_append_left (List.getElem?_eq_some_iff.mp h).1]; exact h
theorem aE7 {n : Nat} {xs : Nat → Int32} : (aE0 ++ [(n, xs)])[7]? = some (n, xs) := rfl
theorem mm_cl {I I' : Nat → Nat → Int32} {L L' : Nat → Nat → Int64} {z : jZ} (hk : clK I I') (hl : clKL L L') (h : mmRep I L z) : mmRep I' L' z := mmRep_same ⟨fun q j g => hk q j (by omega), fun q j g => hl q j (by omega)⟩ h
theorem cl_mm {I I' : Nat → Nat → Int32} {z : jZ} (hk : mmK I I') (h : clRep I z) : clRep I' z := clRep_same (fun q j g => hk q j (by omega)) h
theorem cl_made {I : Nat → Nat → Int32} (hr : rRep I r0) (hw : ∀ i, i < 5 → I 9 i = nI (w0 i)) (hz : ∀ q j, 8 ≤ q → (q < 9 ∨ q = 10 ∨ 15 < q) → I q j = 0) : clRep I z0 := by
  refine clRep_new ⟨⟨hz 16 0 (by omega) (by omega), fun i hi => absurd hi (Nat.not_lt_zero _)⟩, sN_ok, sN_six, ?_, ?_⟩ hr r0_good ⟨w0_ok, hw⟩ (hz 8 10 (by omega) (by omega)) (hz 8 11 (by omega) (by omega)) ⟨hz 37 1 (by omega) (by omega), by show 0 ≤ 256; omega, fun j c h => ?_⟩
  · rw [sN_S]; exact ⟨hz 16 5 (by omega) (by omega), fun k q h => by simp at h⟩
  · rw [sN_S]; exact ⟨hz 16 11 (by omega) (by omega), fun k q m h => by simp at h⟩
  · simp at h
set_option maxHeartbeats 1000000 in
theorem lw_c0 {I : Nat → Nat → Int32} {L : Nat → Nat → Int64} {R : Nat → Nat → Option Nat} (hR : aRf R) {z : jZ} (hz : clRep I z) (hm : mmRep I L z) {n i bc bs : Nat} {xs : Nat → Int32} {Q : Option Value → aH → Prop} (hn : n ≤ 2560) (hi : i + 5 ≤ n) (k : ∀ I' L' z', clRep I' z' → mmRep I' L' z' → aX md_law (aE0 ++ [(n, xs)]) (sh0, I', L', R) 806 [(0, .ref 7), (1, .ref 8), (2, .ref 159), (3, .int (nI (i)))] [] bc bs Q) : aX md_law (aE0 ++ [(n, xs)]) (sh0, I, L, R) 140 [(0, .ref 7), (1, .ref 8), (2, .ref 159), (3, .int (nI (i)))] [] bc bs Q := by
  refine aX_aload_n dL_law_140 rfl ?_
  refine aX_aload_n dL_law_141 rfl ?_
  refine aX_iload_n dL_law_142 rfl ?_
  refine aX_iconst (v := nI 1) dL_law_143 (by decide) ?_
  refine nAdd dL_law_144 ?_
  refine nEld dL_law_145 aE7 (by omega) (by omega) rfl ?_
  refine aX_aload_n dL_law_146 rfl ?_
  refine aX_iload_n dL_law_147 rfl ?_
  refine aX_iconst (v := nI 2) dL_law_148 (by decide) ?_
  refine nAdd dL_law_149 ?_
  refine nEld dL_law_150 aE7 (by omega) (by omega) rfl ?_
  refine aX_aload_n dL_law_151 rfl ?_
  refine aX_iload_n dL_law_152 rfl ?_
  refine aX_iconst (v := nI 3) dL_law_153 (by decide) ?_
  refine nAdd dL_law_154 ?_
  refine nEld dL_law_155 aE7 (by omega) (by omega) rfl ?_
  refine cV (As := [.int (xs (i + 1)), .int (xs (i + 2)), .int (xs (i + 3))]) (st := []) dL_law_156 kL_law_13 s8 aEokL rfl rfl (Nat.le_of_ble_eq_true rfl) (c10_note hR hz) (fun r h' hq => ?_)
  obtain ⟨rfl, I1, L1, rfl, hz1, k1, l1⟩ := hq
  refine ⟨rfl, ?_⟩
  refine aX_aload_n dL_law_159 rfl ?_
  refine aX_aload_n dL_law_160 rfl ?_
  refine aX_iload_n dL_law_161 rfl ?_
  refine aX_iconst (v := nI 1) dL_law_162 (by decide) ?_
  refine nAdd dL_law_163 ?_
  refine nEld dL_law_164 aE7 (by omega) (by omega) rfl ?_
  refine aX_aload_n dL_law_165 rfl ?_
  refine aX_iload_n dL_law_166 rfl ?_
  refine aX_iconst (v := nI 2) dL_law_167 (by decide) ?_
  refine nAdd dL_law_168 ?_
  refine nEld dL_law_169 aE7 (by omega) (by omega) rfl ?_
  refine aX_aload_n dL_law_170 rfl ?_
  refine aX_iload_n dL_law_171 rfl ?_
  refine aX_iconst (v := nI 3) dL_law_172 (by decide) ?_
  refine nAdd dL_law_173 ?_
  refine nEld dL_law_174 aE7 (by omega) (by omega) rfl ?_
  refine cV (As := [.int (xs (i + 1)), .int (xs (i + 2)), .int (xs (i + 3))]) (st := [.int ((oNote z (xs (i + 1)) (xs (i + 2)) (xs (i + 3))).1)]) dL_law_175 kL_law_17 s159 aEokL rfl rfl (Nat.le_of_ble_eq_true rfl) (m10_note hR (mm_cl k1 l1 hm)) (fun r h' hq => ?_)
  obtain ⟨rfl, I2, L2, rfl, hm2, k2, l2⟩ := hq
  refine ⟨rfl, ?_⟩
  refine aX_icmp_eq (tgt := 806) dL_law_178 (by decide) (fun c1 => ?_) (fun c1 => ?_)
  · exact k _ _ _ (cl_mm k2 hz1) hm2
  · exact absurd rfl c1
set_option maxHeartbeats 1000000 in
theorem lw_c1 {I : Nat → Nat → Int32} {L : Nat → Nat → Int64} {R : Nat → Nat → Option Nat} (hR : aRf R) {z : jZ} (hz : clRep I z) (hm : mmRep I L z) {n i bc bs : Nat} {xs : Nat → Int32} {Q : Option Value → aH → Prop} (hn : n ≤ 2560) (hi : i + 5 ≤ n) (k : ∀ I' L' z', clRep I' z' → mmRep I' L' z' → aX md_law (aE0 ++ [(n, xs)]) (sh0, I', L', R) 806 [(0, .ref 7), (1, .ref 8), (2, .ref 159), (3, .int (nI (i)))] [] bc bs Q) : aX md_law (aE0 ++ [(n, xs)]) (sh0, I, L, R) 183 [(0, .ref 7), (1, .ref 8), (2, .ref 159), (3, .int (nI (i)))] [] bc bs Q := by
  refine aX_aload_n dL_law_183 rfl ?_
  refine cV (As := []) (st := []) dL_law_184 kL_law_18 s8 aEokL rfl rfl (Nat.le_of_ble_eq_true rfl) (c10_clear hR hz) (fun r h' hq => ?_)
  obtain ⟨rfl, I1, L1, rfl, hz1, k1, l1⟩ := hq
  refine ⟨rfl, ?_⟩
  refine aX_aload_n dL_law_187 rfl ?_
  refine cV (As := []) (st := [.int ((oClear z).1)]) dL_law_188 kL_law_22 s159 aEokL rfl rfl (Nat.le_of_ble_eq_true rfl) (m10_clear hR (mm_cl k1 l1 hm)) (fun r h' hq => ?_)
  obtain ⟨rfl, I2, L2, rfl, hm2, k2, l2⟩ := hq
  refine ⟨rfl, ?_⟩
  refine aX_icmp_eq (tgt := 806) dL_law_191 (by decide) (fun c1 => ?_) (fun c1 => ?_)
  · exact k _ _ _ (cl_mm k2 hz1) hm2
  · exact absurd rfl c1
set_option maxHeartbeats 1000000 in
theorem lw_c2 {I : Nat → Nat → Int32} {L : Nat → Nat → Int64} {R : Nat → Nat → Option Nat} (hR : aRf R) {z : jZ} (hz : clRep I z) (hm : mmRep I L z) {n i bc bs : Nat} {xs : Nat → Int32} {Q : Option Value → aH → Prop} (hn : n ≤ 2560) (hi : i + 5 ≤ n) (k : ∀ I' L' z', clRep I' z' → mmRep I' L' z' → aX md_law (aE0 ++ [(n, xs)]) (sh0, I', L', R) 806 [(0, .ref 7), (1, .ref 8), (2, .ref 159), (3, .int (nI (i)))] [] bc bs Q) : aX md_law (aE0 ++ [(n, xs)]) (sh0, I, L, R) 196 [(0, .ref 7), (1, .ref 8), (2, .ref 159), (3, .int (nI (i)))] [] bc bs Q := by
  refine aX_aload_n dL_law_196 rfl ?_
  refine aX_aload_n dL_law_197 rfl ?_
  refine aX_iload_n dL_law_198 rfl ?_
  refine aX_iconst (v := nI 1) dL_law_199 (by decide) ?_
  refine nAdd dL_law_200 ?_
  refine nEld dL_law_201 aE7 (by omega) (by omega) rfl ?_
  refine aX_aload_n dL_law_202 rfl ?_
  refine aX_iload_n dL_law_203 rfl ?_
  refine aX_iconst (v := nI 2) dL_law_204 (by decide) ?_
  refine nAdd dL_law_205 ?_
  refine nEld dL_law_206 aE7 (by omega) (by omega) rfl ?_
  refine aX_if_eq (tgt := 214) dL_law_207 (by decide) (fun c1 => ?_) (fun c1 => ?_)
  · refine aX_iconst (v := nI 0) dL_law_214 (by decide) ?_
    refine cV (As := [.int (xs (i + 1)), .int (nI (0))]) (st := []) dL_law_215 kL_law_23 s8 aEokL rfl rfl (Nat.le_of_ble_eq_true rfl) (c10_bind hR hz (b := false)) (fun r h' hq => ?_)
    obtain ⟨rfl, I1, L1, rfl, hz1, k1, l1⟩ := hq
    refine ⟨rfl, ?_⟩
    refine aX_aload_n dL_law_218 rfl ?_
    refine aX_aload_n dL_law_219 rfl ?_
    refine aX_iload_n dL_law_220 rfl ?_
    refine aX_iconst (v := nI 1) dL_law_221 (by decide) ?_
    refine nAdd dL_law_222 ?_
    refine nEld dL_law_223 aE7 (by omega) (by omega) rfl ?_
    refine aX_aload_n dL_law_224 rfl ?_
    refine aX_iload_n dL_law_225 rfl ?_
    refine aX_iconst (v := nI 2) dL_law_226 (by decide) ?_
    refine nAdd dL_law_227 ?_
    refine nEld dL_law_228 aE7 (by omega) (by omega) rfl ?_
    refine aX_if_eq (tgt := 236) dL_law_229 (by decide) (fun c2 => ?_) (fun c2 => ?_)
    · refine aX_iconst (v := nI 0) dL_law_236 (by decide) ?_
      refine cV (As := [.int (xs (i + 1)), .int (nI (0))]) (st := [.int ((oBind z (xs (i + 1)) false).1)]) dL_law_237 kL_law_27 s159 aEokL rfl rfl (Nat.le_of_ble_eq_true rfl) (m10_bind hR (mm_cl k1 l1 hm) (b := false)) (fun r h' hq => ?_)
      obtain ⟨rfl, I2, L2, rfl, hm2, k2, l2⟩ := hq
      refine ⟨rfl, ?_⟩
      refine aX_icmp_eq (tgt := 806) dL_law_240 (by decide) (fun c3 => ?_) (fun c3 => ?_)
      · exact k _ _ _ (cl_mm k2 hz1) hm2
      · exact absurd rfl c3
    · exact absurd c1 c2
  · refine aX_iconst (v := nI 1) dL_law_210 (by decide) ?_
    refine aX_goto (tgt := 215) dL_law_211 (by decide) ?_
    refine cV (As := [.int (xs (i + 1)), .int (nI (1))]) (st := []) dL_law_215 kL_law_23 s8 aEokL rfl rfl (Nat.le_of_ble_eq_true rfl) (c10_bind hR hz (b := true)) (fun r h' hq => ?_)
    obtain ⟨rfl, I1, L1, rfl, hz1, k1, l1⟩ := hq
    refine ⟨rfl, ?_⟩
    refine aX_aload_n dL_law_218 rfl ?_
    refine aX_aload_n dL_law_219 rfl ?_
    refine aX_iload_n dL_law_220 rfl ?_
    refine aX_iconst (v := nI 1) dL_law_221 (by decide) ?_
    refine nAdd dL_law_222 ?_
    refine nEld dL_law_223 aE7 (by omega) (by omega) rfl ?_
    refine aX_aload_n dL_law_224 rfl ?_
    refine aX_iload_n dL_law_225 rfl ?_
    refine aX_iconst (v := nI 2) dL_law_226 (by decide) ?_
    refine nAdd dL_law_227 ?_
    refine nEld dL_law_228 aE7 (by omega) (by omega) rfl ?_
    refine aX_if_eq (tgt := 236) dL_law_229 (by decide) (fun c4 => ?_) (fun c4 => ?_)
    · exact absurd c4 c1
    · refine aX_iconst (v := nI 1) dL_law_232 (by decide) ?_
      refine aX_goto (tgt := 237) dL_law_233 (by decide) ?_
      refine cV (As := [.int (xs (i + 1)), .int (nI (1))]) (st := [.int ((oBind z (xs (i + 1)) true).1)]) dL_law_237 kL_law_27 s159 aEokL rfl rfl (Nat.le_of_ble_eq_true rfl) (m10_bind hR (mm_cl k1 l1 hm) (b := true)) (fun r h' hq => ?_)
      obtain ⟨rfl, I2, L2, rfl, hm2, k2, l2⟩ := hq
      refine ⟨rfl, ?_⟩
      refine aX_icmp_eq (tgt := 806) dL_law_240 (by decide) (fun c5 => ?_) (fun c5 => ?_)
      · exact k _ _ _ (cl_mm k2 hz1) hm2
      · exact absurd rfl c5
set_option maxHeartbeats 1000000 in
theorem lw_c3 {I : Nat → Nat → Int32} {L : Nat → Nat → Int64} {R : Nat → Nat → Option Nat} (hR : aRf R) {z : jZ} (hz : clRep I z) (hm : mmRep I L z) {n i bc bs : Nat} {xs : Nat → Int32} {Q : Option Value → aH → Prop} (hn : n ≤ 2560) (hi : i + 5 ≤ n) (k : ∀ I' L' z', clRep I' z' → mmRep I' L' z' → aX md_law (aE0 ++ [(n, xs)]) (sh0, I', L', R) 806 [(0, .ref 7), (1, .ref 8), (2, .ref 159), (3, .int (nI (i)))] [] bc bs Q) : aX md_law (aE0 ++ [(n, xs)]) (sh0, I, L, R) 245 [(0, .ref 7), (1, .ref 8), (2, .ref 159), (3, .int (nI (i)))] [] bc bs Q := by
  refine aX_aload_n dL_law_245 rfl ?_
  refine aX_aload_n dL_law_246 rfl ?_
  refine aX_iload_n dL_law_247 rfl ?_
  refine aX_iconst (v := nI 1) dL_law_248 (by decide) ?_
  refine nAdd dL_law_249 ?_
  refine nEld dL_law_250 aE7 (by omega) (by omega) rfl ?_
  refine aX_aload_n dL_law_251 rfl ?_
  refine aX_iload_n dL_law_252 rfl ?_
  refine aX_iconst (v := nI 2) dL_law_253 (by decide) ?_
  refine nAdd dL_law_254 ?_
  refine nEld dL_law_255 aE7 (by omega) (by omega) rfl ?_
  refine aX_aload_n dL_law_256 rfl ?_
  refine aX_iload_n dL_law_257 rfl ?_
  refine aX_iconst (v := nI 3) dL_law_258 (by decide) ?_
  refine nAdd dL_law_259 ?_
  refine nEld dL_law_260 aE7 (by omega) (by omega) rfl ?_
  refine cV (As := [.int (xs (i + 1)), .int (xs (i + 2)), .int (xs (i + 3))]) (st := []) dL_law_261 kL_law_28 s8 aEokL rfl rfl (Nat.le_of_ble_eq_true rfl) (c10_ratio hR hz) (fun r h' hq => ?_)
  obtain ⟨rfl, I1, L1, rfl, hz1, k1, l1⟩ := hq
  refine ⟨rfl, ?_⟩
  refine aX_aload_n dL_law_264 rfl ?_
  refine aX_aload_n dL_law_265 rfl ?_
  refine aX_iload_n dL_law_266 rfl ?_
  refine aX_iconst (v := nI 1) dL_law_267 (by decide) ?_
  refine nAdd dL_law_268 ?_
  refine nEld dL_law_269 aE7 (by omega) (by omega) rfl ?_
  refine aX_aload_n dL_law_270 rfl ?_
  refine aX_iload_n dL_law_271 rfl ?_
  refine aX_iconst (v := nI 2) dL_law_272 (by decide) ?_
  refine nAdd dL_law_273 ?_
  refine nEld dL_law_274 aE7 (by omega) (by omega) rfl ?_
  refine aX_aload_n dL_law_275 rfl ?_
  refine aX_iload_n dL_law_276 rfl ?_
  refine aX_iconst (v := nI 3) dL_law_277 (by decide) ?_
  refine nAdd dL_law_278 ?_
  refine nEld dL_law_279 aE7 (by omega) (by omega) rfl ?_
  refine cV (As := [.int (xs (i + 1)), .int (xs (i + 2)), .int (xs (i + 3))]) (st := [.int ((oRatio z (xs (i + 1)) (xs (i + 2)) (xs (i + 3))).1)]) dL_law_280 kL_law_31 s159 aEokL rfl rfl (Nat.le_of_ble_eq_true rfl) (m10_ratio hR (mm_cl k1 l1 hm)) (fun r h' hq => ?_)
  obtain ⟨rfl, I2, L2, rfl, hm2, k2, l2⟩ := hq
  refine ⟨rfl, ?_⟩
  refine aX_icmp_eq (tgt := 806) dL_law_283 (by decide) (fun c1 => ?_) (fun c1 => ?_)
  · exact k _ _ _ (cl_mm k2 hz1) hm2
  · exact absurd rfl c1
set_option maxHeartbeats 1000000 in
theorem lw_c4 {I : Nat → Nat → Int32} {L : Nat → Nat → Int64} {R : Nat → Nat → Option Nat} (hR : aRf R) {z : jZ} (hz : clRep I z) (hm : mmRep I L z) {n i bc bs : Nat} {xs : Nat → Int32} {Q : Option Value → aH → Prop} (hn : n ≤ 2560) (hi : i + 5 ≤ n) (k : ∀ I' L' z', clRep I' z' → mmRep I' L' z' → aX md_law (aE0 ++ [(n, xs)]) (sh0, I', L', R) 806 [(0, .ref 7), (1, .ref 8), (2, .ref 159), (3, .int (nI (i)))] [] bc bs Q) : aX md_law (aE0 ++ [(n, xs)]) (sh0, I, L, R) 288 [(0, .ref 7), (1, .ref 8), (2, .ref 159), (3, .int (nI (i)))] [] bc bs Q := by
  refine aX_aload_n dL_law_288 rfl ?_
  refine aX_aload_n dL_law_289 rfl ?_
  refine aX_iload_n dL_law_290 rfl ?_
  refine aX_iconst (v := nI 1) dL_law_291 (by decide) ?_
  refine nAdd dL_law_292 ?_
  refine nEld dL_law_293 aE7 (by omega) (by omega) rfl ?_
  refine cV (As := [.int (xs (i + 1))]) (st := []) dL_law_294 kL_law_32 s8 aEokL rfl rfl (Nat.le_of_ble_eq_true rfl) (c10_empty hR hz) (fun r h' hq => ?_)
  obtain ⟨rfl, I1, L1, rfl, hz1, k1, l1⟩ := hq
  refine ⟨rfl, ?_⟩
  refine aX_aload_n dL_law_297 rfl ?_
  refine aX_aload_n dL_law_298 rfl ?_
  refine aX_iload_n dL_law_299 rfl ?_
  refine aX_iconst (v := nI 1) dL_law_300 (by decide) ?_
  refine nAdd dL_law_301 ?_
  refine nEld dL_law_302 aE7 (by omega) (by omega) rfl ?_
  refine cV (As := [.int (xs (i + 1))]) (st := [.int ((oEmpty z (xs (i + 1))).1)]) dL_law_303 kL_law_36 s159 aEokL rfl rfl (Nat.le_of_ble_eq_true rfl) (m10_empty hR (mm_cl k1 l1 hm)) (fun r h' hq => ?_)
  obtain ⟨rfl, I2, L2, rfl, hm2, k2, l2⟩ := hq
  refine ⟨rfl, ?_⟩
  refine aX_icmp_eq (tgt := 806) dL_law_306 (by decide) (fun c1 => ?_) (fun c1 => ?_)
  · exact k _ _ _ (cl_mm k2 hz1) hm2
  · exact absurd rfl c1
set_option maxHeartbeats 1000000 in
theorem lw_c5 {I : Nat → Nat → Int32} {L : Nat → Nat → Int64} {R : Nat → Nat → Option Nat} (hR : aRf R) {z : jZ} (hz : clRep I z) (hm : mmRep I L z) {n i bc bs : Nat} {xs : Nat → Int32} {Q : Option Value → aH → Prop} (hn : n ≤ 2560) (hi : i + 5 ≤ n) (k : ∀ I' L' z', clRep I' z' → mmRep I' L' z' → aX md_law (aE0 ++ [(n, xs)]) (sh0, I', L', R) 806 [(0, .ref 7), (1, .ref 8), (2, .ref 159), (3, .int (nI (i)))] [] bc bs Q) : aX md_law (aE0 ++ [(n, xs)]) (sh0, I, L, R) 311 [(0, .ref 7), (1, .ref 8), (2, .ref 159), (3, .int (nI (i)))] [] bc bs Q := by
  refine aX_aload_n dL_law_311 rfl ?_
  refine aX_aload_n dL_law_312 rfl ?_
  refine aX_iload_n dL_law_313 rfl ?_
  refine aX_iconst (v := nI 1) dL_law_314 (by decide) ?_
  refine nAdd dL_law_315 ?_
  refine nEld dL_law_316 aE7 (by omega) (by omega) rfl ?_
  refine aX_aload_n dL_law_317 rfl ?_
  refine aX_iload_n dL_law_318 rfl ?_
  refine aX_iconst (v := nI 2) dL_law_319 (by decide) ?_
  refine nAdd dL_law_320 ?_
  refine nEld dL_law_321 aE7 (by omega) (by omega) rfl ?_
  refine cV (As := [.int (xs (i + 1)), .int (xs (i + 2))]) (st := []) dL_law_322 kL_law_37 s8 aEokL rfl rfl (Nat.le_of_ble_eq_true rfl) (c10_weight hR hz) (fun r h' hq => ?_)
  obtain ⟨rfl, I1, L1, rfl, hz1, k1, l1⟩ := hq
  refine ⟨rfl, ?_⟩
  refine aX_aload_n dL_law_325 rfl ?_
  refine aX_aload_n dL_law_326 rfl ?_
  refine aX_iload_n dL_law_327 rfl ?_
  refine aX_iconst (v := nI 1) dL_law_328 (by decide) ?_
  refine nAdd dL_law_329 ?_
  refine nEld dL_law_330 aE7 (by omega) (by omega) rfl ?_
  refine aX_aload_n dL_law_331 rfl ?_
  refine aX_iload_n dL_law_332 rfl ?_
  refine aX_iconst (v := nI 2) dL_law_333 (by decide) ?_
  refine nAdd dL_law_334 ?_
  refine nEld dL_law_335 aE7 (by omega) (by omega) rfl ?_
  refine cV (As := [.int (xs (i + 1)), .int (xs (i + 2))]) (st := [.int ((oWeight z (xs (i + 1)) (xs (i + 2))).1)]) dL_law_336 kL_law_41 s159 aEokL rfl rfl (Nat.le_of_ble_eq_true rfl) (m10_weight hR (mm_cl k1 l1 hm)) (fun r h' hq => ?_)
  obtain ⟨rfl, I2, L2, rfl, hm2, k2, l2⟩ := hq
  refine ⟨rfl, ?_⟩
  refine aX_icmp_eq (tgt := 806) dL_law_339 (by decide) (fun c1 => ?_) (fun c1 => ?_)
  · exact k _ _ _ (cl_mm k2 hz1) hm2
  · exact absurd rfl c1
set_option maxHeartbeats 1000000 in
theorem lw_c6 {I : Nat → Nat → Int32} {L : Nat → Nat → Int64} {R : Nat → Nat → Option Nat} (hR : aRf R) {z : jZ} (hz : clRep I z) (hm : mmRep I L z) {n i bc bs : Nat} {xs : Nat → Int32} {Q : Option Value → aH → Prop} (hn : n ≤ 2560) (hi : i + 5 ≤ n) (k : ∀ I' L' z', clRep I' z' → mmRep I' L' z' → aX md_law (aE0 ++ [(n, xs)]) (sh0, I', L', R) 806 [(0, .ref 7), (1, .ref 8), (2, .ref 159), (3, .int (nI (i)))] [] bc bs Q) : aX md_law (aE0 ++ [(n, xs)]) (sh0, I, L, R) 344 [(0, .ref 7), (1, .ref 8), (2, .ref 159), (3, .int (nI (i)))] [] bc bs Q := by
  refine aX_aload_n dL_law_344 rfl ?_
  refine cV (As := []) (st := []) dL_law_345 kL_law_42 s8 aEokL rfl rfl (Nat.le_of_ble_eq_true rfl) (c10_sets hR hz) (fun r h' hq => ?_)
  obtain ⟨rfl, I1, L1, rfl, hz1, k1, l1⟩ := hq
  refine ⟨rfl, ?_⟩
  refine aX_aload_n dL_law_348 rfl ?_
  refine cV (As := []) (st := [.int (nI (jS z.1).length)]) dL_law_349 kL_law_45 s159 aEokL rfl rfl (Nat.le_of_ble_eq_true rfl) (m10_sets hR (mm_cl k1 l1 hm)) (fun r h' hq => ?_)
  obtain ⟨rfl, I2, L2, rfl, hm2, k2, l2⟩ := hq
  refine ⟨rfl, ?_⟩
  refine aX_icmp_eq (tgt := 806) dL_law_352 (by decide) (fun c1 => ?_) (fun c1 => ?_)
  · exact k _ _ _ (cl_mm k2 hz1) hm2
  · exact absurd rfl c1
set_option maxHeartbeats 1000000 in
theorem lw_c7 {I : Nat → Nat → Int32} {L : Nat → Nat → Int64} {R : Nat → Nat → Option Nat} (hR : aRf R) {z : jZ} (hz : clRep I z) (hm : mmRep I L z) {n i bc bs : Nat} {xs : Nat → Int32} {Q : Option Value → aH → Prop} (hn : n ≤ 2560) (hi : i + 5 ≤ n) (k : ∀ I' L' z', clRep I' z' → mmRep I' L' z' → aX md_law (aE0 ++ [(n, xs)]) (sh0, I', L', R) 806 [(0, .ref 7), (1, .ref 8), (2, .ref 159), (3, .int (nI (i)))] [] bc bs Q) : aX md_law (aE0 ++ [(n, xs)]) (sh0, I, L, R) 357 [(0, .ref 7), (1, .ref 8), (2, .ref 159), (3, .int (nI (i)))] [] bc bs Q := by
  refine aX_aload_n dL_law_357 rfl ?_
  refine aX_aload_n dL_law_358 rfl ?_
  refine aX_iload_n dL_law_359 rfl ?_
  refine aX_iconst (v := nI 1) dL_law_360 (by decide) ?_
  refine nAdd dL_law_361 ?_
  refine nEld dL_law_362 aE7 (by omega) (by omega) rfl ?_
  refine aX_aload_n dL_law_363 rfl ?_
  refine aX_iload_n dL_law_364 rfl ?_
  refine aX_iconst (v := nI 2) dL_law_365 (by decide) ?_
  refine nAdd dL_law_366 ?_
  refine nEld dL_law_367 aE7 (by omega) (by omega) rfl ?_
  refine cV (As := [.int (xs (i + 1)), .int (xs (i + 2))]) (st := []) dL_law_368 kL_law_46 s8 aEokL rfl rfl (Nat.le_of_ble_eq_true rfl) (c10_set hR hz) (fun r h' hq => ?_)
  obtain ⟨rfl, I1, L1, rfl, hz1, k1, l1⟩ := hq
  refine ⟨rfl, ?_⟩
  refine aX_aload_n dL_law_371 rfl ?_
  refine aX_aload_n dL_law_372 rfl ?_
  refine aX_iload_n dL_law_373 rfl ?_
  refine aX_iconst (v := nI 1) dL_law_374 (by decide) ?_
  refine nAdd dL_law_375 ?_
  refine nEld dL_law_376 aE7 (by omega) (by omega) rfl ?_
  refine aX_aload_n dL_law_377 rfl ?_
  refine aX_iload_n dL_law_378 rfl ?_
  refine aX_iconst (v := nI 2) dL_law_379 (by decide) ?_
  refine nAdd dL_law_380 ?_
  refine nEld dL_law_381 aE7 (by omega) (by omega) rfl ?_
  refine cV (As := [.int (xs (i + 1)), .int (xs (i + 2))]) (st := [.int (oSet z (xs (i + 1)) (xs (i + 2)))]) dL_law_382 kL_law_49 s159 aEokL rfl rfl (Nat.le_of_ble_eq_true rfl) (m10_set hR (mm_cl k1 l1 hm)) (fun r h' hq => ?_)
  obtain ⟨rfl, I2, L2, rfl, hm2, k2, l2⟩ := hq
  refine ⟨rfl, ?_⟩
  refine aX_icmp_eq (tgt := 806) dL_law_385 (by decide) (fun c1 => ?_) (fun c1 => ?_)
  · exact k _ _ _ (cl_mm k2 hz1) hm2
  · exact absurd rfl c1
set_option maxHeartbeats 1000000 in
theorem lw_c8 {I : Nat → Nat → Int32} {L : Nat → Nat → Int64} {R : Nat → Nat → Option Nat} (hR : aRf R) {z : jZ} (hz : clRep I z) (hm : mmRep I L z) {n i bc bs : Nat} {xs : Nat → Int32} {Q : Option Value → aH → Prop} (hn : n ≤ 2560) (hi : i + 5 ≤ n) (k : ∀ I' L' z', clRep I' z' → mmRep I' L' z' → aX md_law (aE0 ++ [(n, xs)]) (sh0, I', L', R) 806 [(0, .ref 7), (1, .ref 8), (2, .ref 159), (3, .int (nI (i)))] [] bc bs Q) : aX md_law (aE0 ++ [(n, xs)]) (sh0, I, L, R) 390 [(0, .ref 7), (1, .ref 8), (2, .ref 159), (3, .int (nI (i)))] [] bc bs Q := by
  refine aX_aload_n dL_law_390 rfl ?_
  refine aX_aload_n dL_law_391 rfl ?_
  refine aX_iload_n dL_law_392 rfl ?_
  refine aX_iconst (v := nI 1) dL_law_393 (by decide) ?_
  refine nAdd dL_law_394 ?_
  refine nEld dL_law_395 aE7 (by omega) (by omega) rfl ?_
  refine aX_aload_n dL_law_396 rfl ?_
  refine aX_iload_n dL_law_397 rfl ?_
  refine aX_iconst (v := nI 2) dL_law_398 (by decide) ?_
  refine nAdd dL_law_399 ?_
  refine nEld dL_law_400 aE7 (by omega) (by omega) rfl ?_
  refine cV (As := [.int (xs (i + 1)), .int (xs (i + 2))]) (st := []) dL_law_401 kL_law_50 s8 aEokL rfl rfl (Nat.le_of_ble_eq_true rfl) (c10_sounds hR hz) (fun r h' hq => ?_)
  obtain ⟨rfl, I1, L1, rfl, hz1, k1, l1⟩ := hq
  refine ⟨rfl, ?_⟩
  refine aX_aload_n dL_law_404 rfl ?_
  refine aX_aload_n dL_law_405 rfl ?_
  refine aX_iload_n dL_law_406 rfl ?_
  refine aX_iconst (v := nI 1) dL_law_407 (by decide) ?_
  refine nAdd dL_law_408 ?_
  refine nEld dL_law_409 aE7 (by omega) (by omega) rfl ?_
  refine aX_aload_n dL_law_410 rfl ?_
  refine aX_iload_n dL_law_411 rfl ?_
  refine aX_iconst (v := nI 2) dL_law_412 (by decide) ?_
  refine nAdd dL_law_413 ?_
  refine nEld dL_law_414 aE7 (by omega) (by omega) rfl ?_
  refine cV (As := [.int (xs (i + 1)), .int (xs (i + 2))]) (st := [.int (oSounds z (xs (i + 1)) (xs (i + 2)))]) dL_law_415 kL_law_53 s159 aEokL rfl rfl (Nat.le_of_ble_eq_true rfl) (m10_sounds hR (mm_cl k1 l1 hm)) (fun r h' hq => ?_)
  obtain ⟨rfl, I2, L2, rfl, hm2, k2, l2⟩ := hq
  refine ⟨rfl, ?_⟩
  refine aX_icmp_eq (tgt := 806) dL_law_418 (by decide) (fun c1 => ?_) (fun c1 => ?_)
  · exact k _ _ _ (cl_mm k2 hz1) hm2
  · exact absurd rfl c1
set_option maxHeartbeats 1000000 in
theorem lw_c9 {I : Nat → Nat → Int32} {L : Nat → Nat → Int64} {R : Nat → Nat → Option Nat} (hR : aRf R) {z : jZ} (hz : clRep I z) (hm : mmRep I L z) {n i bc bs : Nat} {xs : Nat → Int32} {Q : Option Value → aH → Prop} (hn : n ≤ 2560) (hi : i + 5 ≤ n) (k : ∀ I' L' z', clRep I' z' → mmRep I' L' z' → aX md_law (aE0 ++ [(n, xs)]) (sh0, I', L', R) 806 [(0, .ref 7), (1, .ref 8), (2, .ref 159), (3, .int (nI (i)))] [] bc bs Q) : aX md_law (aE0 ++ [(n, xs)]) (sh0, I, L, R) 423 [(0, .ref 7), (1, .ref 8), (2, .ref 159), (3, .int (nI (i)))] [] bc bs Q := by
  refine aX_aload_n dL_law_423 rfl ?_
  refine aX_aload_n dL_law_424 rfl ?_
  refine aX_iload_n dL_law_425 rfl ?_
  refine aX_iconst (v := nI 1) dL_law_426 (by decide) ?_
  refine nAdd dL_law_427 ?_
  refine nEld dL_law_428 aE7 (by omega) (by omega) rfl ?_
  refine aX_aload_n dL_law_429 rfl ?_
  refine aX_iload_n dL_law_430 rfl ?_
  refine aX_iconst (v := nI 2) dL_law_431 (by decide) ?_
  refine nAdd dL_law_432 ?_
  refine nEld dL_law_433 aE7 (by omega) (by omega) rfl ?_
  refine aX_aload_n dL_law_434 rfl ?_
  refine aX_iload_n dL_law_435 rfl ?_
  refine aX_iconst (v := nI 3) dL_law_436 (by decide) ?_
  refine nAdd dL_law_437 ?_
  refine nEld dL_law_438 aE7 (by omega) (by omega) rfl ?_
  refine aX_aload_n dL_law_439 rfl ?_
  refine aX_iload_n dL_law_440 rfl ?_
  refine aX_iconst (v := nI 4) dL_law_441 (by decide) ?_
  refine nAdd dL_law_442 ?_
  refine nEld dL_law_443 aE7 (by omega) (by omega) rfl ?_
  refine cV (As := [.int (xs (i + 1)), .int (xs (i + 2)), .int (xs (i + 3)), .int (xs (i + 4))]) (st := []) dL_law_444 kL_law_54 s8 aEokL rfl rfl (Nat.le_of_ble_eq_true rfl) (c10_reading hR hz) (fun r h' hq => ?_)
  obtain ⟨rfl, I1, L1, rfl, hz1, k1, l1⟩ := hq
  refine ⟨rfl, ?_⟩
  refine aX_aload_n dL_law_447 rfl ?_
  refine aX_aload_n dL_law_448 rfl ?_
  refine aX_iload_n dL_law_449 rfl ?_
  refine aX_iconst (v := nI 1) dL_law_450 (by decide) ?_
  refine nAdd dL_law_451 ?_
  refine nEld dL_law_452 aE7 (by omega) (by omega) rfl ?_
  refine aX_aload_n dL_law_453 rfl ?_
  refine aX_iload_n dL_law_454 rfl ?_
  refine aX_iconst (v := nI 2) dL_law_455 (by decide) ?_
  refine nAdd dL_law_456 ?_
  refine nEld dL_law_457 aE7 (by omega) (by omega) rfl ?_
  refine aX_aload_n dL_law_458 rfl ?_
  refine aX_iload_n dL_law_459 rfl ?_
  refine aX_iconst (v := nI 3) dL_law_460 (by decide) ?_
  refine nAdd dL_law_461 ?_
  refine nEld dL_law_462 aE7 (by omega) (by omega) rfl ?_
  refine aX_aload_n dL_law_463 rfl ?_
  refine aX_iload_n dL_law_464 rfl ?_
  refine aX_iconst (v := nI 4) dL_law_465 (by decide) ?_
  refine nAdd dL_law_466 ?_
  refine nEld dL_law_467 aE7 (by omega) (by omega) rfl ?_
  refine cV (As := [.int (xs (i + 1)), .int (xs (i + 2)), .int (xs (i + 3)), .int (xs (i + 4))]) (st := [.int (oReading z (xs (i + 1)) (xs (i + 2)) (xs (i + 3)) (xs (i + 4)))]) dL_law_468 kL_law_58 s159 aEokL rfl rfl (Nat.le_of_ble_eq_true rfl) (m10_reading hR (mm_cl k1 l1 hm)) (fun r h' hq => ?_)
  obtain ⟨rfl, I2, L2, rfl, hm2, k2, l2⟩ := hq
  refine ⟨rfl, ?_⟩
  refine aX_icmp_eq (tgt := 806) dL_law_471 (by decide) (fun c1 => ?_) (fun c1 => ?_)
  · exact k _ _ _ (cl_mm k2 hz1) hm2
  · exact absurd rfl c1
set_option maxHeartbeats 1000000 in
theorem lw_c10 {I : Nat → Nat → Int32} {L : Nat → Nat → Int64} {R : Nat → Nat → Option Nat} (hR : aRf R) {z : jZ} (hz : clRep I z) (hm : mmRep I L z) {n i bc bs : Nat} {xs : Nat → Int32} {Q : Option Value → aH → Prop} (hn : n ≤ 2560) (hi : i + 5 ≤ n) (k : ∀ I' L' z', clRep I' z' → mmRep I' L' z' → aX md_law (aE0 ++ [(n, xs)]) (sh0, I', L', R) 806 [(0, .ref 7), (1, .ref 8), (2, .ref 159), (3, .int (nI (i)))] [] bc bs Q) : aX md_law (aE0 ++ [(n, xs)]) (sh0, I, L, R) 476 [(0, .ref 7), (1, .ref 8), (2, .ref 159), (3, .int (nI (i)))] [] bc bs Q := by
  refine aX_aload_n dL_law_476 rfl ?_
  refine aX_aload_n dL_law_477 rfl ?_
  refine aX_iload_n dL_law_478 rfl ?_
  refine aX_iconst (v := nI 1) dL_law_479 (by decide) ?_
  refine nAdd dL_law_480 ?_
  refine nEld dL_law_481 aE7 (by omega) (by omega) rfl ?_
  refine aX_aload_n dL_law_482 rfl ?_
  refine aX_iload_n dL_law_483 rfl ?_
  refine aX_iconst (v := nI 2) dL_law_484 (by decide) ?_
  refine nAdd dL_law_485 ?_
  refine nEld dL_law_486 aE7 (by omega) (by omega) rfl ?_
  refine cV (As := [.int (xs (i + 1)), .int (xs (i + 2))]) (st := []) dL_law_487 kL_law_59 s8 aEokL rfl rfl (Nat.le_of_ble_eq_true rfl) (c10_harsh hR hz) (fun r h' hq => ?_)
  obtain ⟨rfl, I1, L1, rfl, hz1, k1, l1⟩ := hq
  refine ⟨rfl, ?_⟩
  refine aX_aload_n dL_law_490 rfl ?_
  refine aX_aload_n dL_law_491 rfl ?_
  refine aX_iload_n dL_law_492 rfl ?_
  refine aX_iconst (v := nI 1) dL_law_493 (by decide) ?_
  refine nAdd dL_law_494 ?_
  refine nEld dL_law_495 aE7 (by omega) (by omega) rfl ?_
  refine aX_aload_n dL_law_496 rfl ?_
  refine aX_iload_n dL_law_497 rfl ?_
  refine aX_iconst (v := nI 2) dL_law_498 (by decide) ?_
  refine nAdd dL_law_499 ?_
  refine nEld dL_law_500 aE7 (by omega) (by omega) rfl ?_
  refine cV (As := [.int (xs (i + 1)), .int (xs (i + 2))]) (st := [.int (oHarsh z (xs (i + 1)) (xs (i + 2)))]) dL_law_501 kL_law_62 s159 aEokL rfl rfl (Nat.le_of_ble_eq_true rfl) (m10_harsh hR (mm_cl k1 l1 hm)) (fun r h' hq => ?_)
  obtain ⟨rfl, I2, L2, rfl, hm2, k2, l2⟩ := hq
  refine ⟨rfl, ?_⟩
  refine aX_icmp_eq (tgt := 806) dL_law_504 (by decide) (fun c1 => ?_) (fun c1 => ?_)
  · exact k _ _ _ (cl_mm k2 hz1) hm2
  · exact absurd rfl c1
set_option maxHeartbeats 1000000 in
theorem lw_c11 {I : Nat → Nat → Int32} {L : Nat → Nat → Int64} {R : Nat → Nat → Option Nat} (hR : aRf R) {z : jZ} (hz : clRep I z) (hm : mmRep I L z) {n i bc bs : Nat} {xs : Nat → Int32} {Q : Option Value → aH → Prop} (hn : n ≤ 2560) (hi : i + 5 ≤ n) (k : ∀ I' L' z', clRep I' z' → mmRep I' L' z' → aX md_law (aE0 ++ [(n, xs)]) (sh0, I', L', R) 806 [(0, .ref 7), (1, .ref 8), (2, .ref 159), (3, .int (nI (i)))] [] bc bs Q) : aX md_law (aE0 ++ [(n, xs)]) (sh0, I, L, R) 509 [(0, .ref 7), (1, .ref 8), (2, .ref 159), (3, .int (nI (i)))] [] bc bs Q := by
  refine aX_aload_n dL_law_509 rfl ?_
  refine cV (As := []) (st := []) dL_law_510 kL_law_63 s8 aEokL rfl rfl (Nat.le_of_ble_eq_true rfl) (c10_choose hR hz) (fun r h' hq => ?_)
  obtain ⟨rfl, I1, L1, rfl, hz1, k1, l1⟩ := hq
  refine ⟨rfl, ?_⟩
  refine aX_aload_n dL_law_513 rfl ?_
  refine cV (As := []) (st := [.long ((oChoose z).1)]) dL_law_514 kL_law_67 s159 aEokL rfl rfl (Nat.le_of_ble_eq_true rfl) (m10_choose hR (mm_cl k1 l1 hm)) (fun r h' hq => ?_)
  obtain ⟨rfl, I2, L2, rfl, hm2, k2, l2⟩ := hq
  refine ⟨rfl, ?_⟩
  refine aX_lcmp dL_law_517 ?_
  refine lIf_eq (tgt := 806) dL_law_518 (by decide) (fun c1 => ?_) (fun c1 => ?_)
  · exact k _ _ _ (cl_mm k2 hz1) hm2
  · exact absurd rfl c1
set_option maxHeartbeats 1000000 in
theorem lw_c12 {I : Nat → Nat → Int32} {L : Nat → Nat → Int64} {R : Nat → Nat → Option Nat} (hR : aRf R) {z : jZ} (hz : clRep I z) (hm : mmRep I L z) {n i bc bs : Nat} {xs : Nat → Int32} {Q : Option Value → aH → Prop} (hn : n ≤ 2560) (hi : i + 5 ≤ n) (k : ∀ I' L' z', clRep I' z' → mmRep I' L' z' → aX md_law (aE0 ++ [(n, xs)]) (sh0, I', L', R) 806 [(0, .ref 7), (1, .ref 8), (2, .ref 159), (3, .int (nI (i)))] [] bc bs Q) : aX md_law (aE0 ++ [(n, xs)]) (sh0, I, L, R) 523 [(0, .ref 7), (1, .ref 8), (2, .ref 159), (3, .int (nI (i)))] [] bc bs Q := by
  refine aX_aload_n dL_law_523 rfl ?_
  refine aX_aload_n dL_law_524 rfl ?_
  refine aX_iload_n dL_law_525 rfl ?_
  refine aX_iconst (v := nI 1) dL_law_526 (by decide) ?_
  refine nAdd dL_law_527 ?_
  refine nEld dL_law_528 aE7 (by omega) (by omega) rfl ?_
  refine cV (As := [.int (xs (i + 1))]) (st := []) dL_law_529 kL_law_68 s8 aEokL rfl rfl (Nat.le_of_ble_eq_true rfl) (c10_chosen hR hz) (fun r h' hq => ?_)
  obtain ⟨rfl, I1, L1, rfl, hz1, k1, l1⟩ := hq
  refine ⟨rfl, ?_⟩
  refine aX_aload_n dL_law_532 rfl ?_
  refine aX_aload_n dL_law_533 rfl ?_
  refine aX_iload_n dL_law_534 rfl ?_
  refine aX_iconst (v := nI 1) dL_law_535 (by decide) ?_
  refine nAdd dL_law_536 ?_
  refine nEld dL_law_537 aE7 (by omega) (by omega) rfl ?_
  refine cV (As := [.int (xs (i + 1))]) (st := [.int (oChosen z (xs (i + 1)))]) dL_law_538 kL_law_71 s159 aEokL rfl rfl (Nat.le_of_ble_eq_true rfl) (m10_chosen hR (mm_cl k1 l1 hm)) (fun r h' hq => ?_)
  obtain ⟨rfl, I2, L2, rfl, hm2, k2, l2⟩ := hq
  refine ⟨rfl, ?_⟩
  refine aX_icmp_eq (tgt := 806) dL_law_541 (by decide) (fun c1 => ?_) (fun c1 => ?_)
  · exact k _ _ _ (cl_mm k2 hz1) hm2
  · exact absurd rfl c1
set_option maxHeartbeats 1000000 in
theorem lw_c13 {I : Nat → Nat → Int32} {L : Nat → Nat → Int64} {R : Nat → Nat → Option Nat} (hR : aRf R) {z : jZ} (hz : clRep I z) (hm : mmRep I L z) {n i bc bs : Nat} {xs : Nat → Int32} {Q : Option Value → aH → Prop} (hn : n ≤ 2560) (hi : i + 5 ≤ n) (k : ∀ I' L' z', clRep I' z' → mmRep I' L' z' → aX md_law (aE0 ++ [(n, xs)]) (sh0, I', L', R) 806 [(0, .ref 7), (1, .ref 8), (2, .ref 159), (3, .int (nI (i)))] [] bc bs Q) : aX md_law (aE0 ++ [(n, xs)]) (sh0, I, L, R) 546 [(0, .ref 7), (1, .ref 8), (2, .ref 159), (3, .int (nI (i)))] [] bc bs Q := by
  refine aX_aload_n dL_law_546 rfl ?_
  refine cV (As := []) (st := []) dL_law_547 kL_law_72 s8 aEokL rfl rfl (Nat.le_of_ble_eq_true rfl) (c10_solve hR hz) (fun r h' hq => ?_)
  obtain ⟨rfl, I1, L1, rfl, hz1, k1, l1⟩ := hq
  refine ⟨rfl, ?_⟩
  refine aX_aload_n dL_law_550 rfl ?_
  refine cV (As := []) (st := [.int ((oSolve z).1)]) dL_law_551 kL_law_75 s159 aEokL rfl rfl (Nat.le_of_ble_eq_true rfl) (m10_solve hR (mm_cl k1 l1 hm)) (fun r h' hq => ?_)
  obtain ⟨rfl, I2, L2, rfl, hm2, k2, l2⟩ := hq
  refine ⟨rfl, ?_⟩
  refine aX_icmp_eq (tgt := 806) dL_law_554 (by decide) (fun c1 => ?_) (fun c1 => ?_)
  · exact k _ _ _ (cl_mm k2 hz1) hm2
  · exact absurd rfl c1
set_option maxHeartbeats 1000000 in
theorem lw_c14 {I : Nat → Nat → Int32} {L : Nat → Nat → Int64} {R : Nat → Nat → Option Nat} (hR : aRf R) {z : jZ} (hz : clRep I z) (hm : mmRep I L z) {n i bc bs : Nat} {xs : Nat → Int32} {Q : Option Value → aH → Prop} (hn : n ≤ 2560) (hi : i + 5 ≤ n) (k : ∀ I' L' z', clRep I' z' → mmRep I' L' z' → aX md_law (aE0 ++ [(n, xs)]) (sh0, I', L', R) 806 [(0, .ref 7), (1, .ref 8), (2, .ref 159), (3, .int (nI (i)))] [] bc bs Q) : aX md_law (aE0 ++ [(n, xs)]) (sh0, I, L, R) 559 [(0, .ref 7), (1, .ref 8), (2, .ref 159), (3, .int (nI (i)))] [] bc bs Q := by
  refine aX_aload_n dL_law_559 rfl ?_
  refine aX_aload_n dL_law_560 rfl ?_
  refine aX_iload_n dL_law_561 rfl ?_
  refine aX_iconst (v := nI 1) dL_law_562 (by decide) ?_
  refine nAdd dL_law_563 ?_
  refine nEld dL_law_564 aE7 (by omega) (by omega) rfl ?_
  refine aX_aload_n dL_law_565 rfl ?_
  refine aX_iload_n dL_law_566 rfl ?_
  refine aX_iconst (v := nI 2) dL_law_567 (by decide) ?_
  refine nAdd dL_law_568 ?_
  refine nEld dL_law_569 aE7 (by omega) (by omega) rfl ?_
  refine cV (As := [.int (xs (i + 1)), .int (xs (i + 2))]) (st := []) dL_law_570 kL_law_76 s8 aEokL rfl rfl (Nat.le_of_ble_eq_true rfl) (c10_variable hR hz) (fun r h' hq => ?_)
  obtain ⟨rfl, I1, L1, rfl, hz1, k1, l1⟩ := hq
  refine ⟨rfl, ?_⟩
  refine aX_aload_n dL_law_573 rfl ?_
  refine aX_aload_n dL_law_574 rfl ?_
  refine aX_iload_n dL_law_575 rfl ?_
  refine aX_iconst (v := nI 1) dL_law_576 (by decide) ?_
  refine nAdd dL_law_577 ?_
  refine nEld dL_law_578 aE7 (by omega) (by omega) rfl ?_
  refine aX_aload_n dL_law_579 rfl ?_
  refine aX_iload_n dL_law_580 rfl ?_
  refine aX_iconst (v := nI 2) dL_law_581 (by decide) ?_
  refine nAdd dL_law_582 ?_
  refine nEld dL_law_583 aE7 (by omega) (by omega) rfl ?_
  refine cV (As := [.int (xs (i + 1)), .int (xs (i + 2))]) (st := [.int (oVariable z (xs (i + 1)) (xs (i + 2)))]) dL_law_584 kL_law_79 s159 aEokL rfl rfl (Nat.le_of_ble_eq_true rfl) (m10_variable hR (mm_cl k1 l1 hm)) (fun r h' hq => ?_)
  obtain ⟨rfl, I2, L2, rfl, hm2, k2, l2⟩ := hq
  refine ⟨rfl, ?_⟩
  refine aX_icmp_eq (tgt := 806) dL_law_587 (by decide) (fun c1 => ?_) (fun c1 => ?_)
  · exact k _ _ _ (cl_mm k2 hz1) hm2
  · exact absurd rfl c1
set_option maxHeartbeats 1000000 in
theorem lw_c15 {I : Nat → Nat → Int32} {L : Nat → Nat → Int64} {R : Nat → Nat → Option Nat} (hR : aRf R) {z : jZ} (hz : clRep I z) (hm : mmRep I L z) {n i bc bs : Nat} {xs : Nat → Int32} {Q : Option Value → aH → Prop} (hn : n ≤ 2560) (hi : i + 5 ≤ n) (k : ∀ I' L' z', clRep I' z' → mmRep I' L' z' → aX md_law (aE0 ++ [(n, xs)]) (sh0, I', L', R) 806 [(0, .ref 7), (1, .ref 8), (2, .ref 159), (3, .int (nI (i)))] [] bc bs Q) : aX md_law (aE0 ++ [(n, xs)]) (sh0, I, L, R) 592 [(0, .ref 7), (1, .ref 8), (2, .ref 159), (3, .int (nI (i)))] [] bc bs Q := by
  refine aX_aload_n dL_law_592 rfl ?_
  refine cV (As := []) (st := []) dL_law_593 kL_law_80 s8 aEokL rfl rfl (Nat.le_of_ble_eq_true rfl) (c10_loose hR hz) (fun r h' hq => ?_)
  obtain ⟨rfl, I1, L1, rfl, hz1, k1, l1⟩ := hq
  refine ⟨rfl, ?_⟩
  refine aX_aload_n dL_law_596 rfl ?_
  refine cV (As := []) (st := [.int (oLoose z)]) dL_law_597 kL_law_83 s159 aEokL rfl rfl (Nat.le_of_ble_eq_true rfl) (m10_loose hR (mm_cl k1 l1 hm)) (fun r h' hq => ?_)
  obtain ⟨rfl, I2, L2, rfl, hm2, k2, l2⟩ := hq
  refine ⟨rfl, ?_⟩
  refine aX_icmp_eq (tgt := 806) dL_law_600 (by decide) (fun c1 => ?_) (fun c1 => ?_)
  · exact k _ _ _ (cl_mm k2 hz1) hm2
  · exact absurd rfl c1
set_option maxHeartbeats 1000000 in
theorem lw_c16 {I : Nat → Nat → Int32} {L : Nat → Nat → Int64} {R : Nat → Nat → Option Nat} (hR : aRf R) {z : jZ} (hz : clRep I z) (hm : mmRep I L z) {n i bc bs : Nat} {xs : Nat → Int32} {Q : Option Value → aH → Prop} (hn : n ≤ 2560) (hi : i + 5 ≤ n) (k : ∀ I' L' z', clRep I' z' → mmRep I' L' z' → aX md_law (aE0 ++ [(n, xs)]) (sh0, I', L', R) 806 [(0, .ref 7), (1, .ref 8), (2, .ref 159), (3, .int (nI (i)))] [] bc bs Q) : aX md_law (aE0 ++ [(n, xs)]) (sh0, I, L, R) 605 [(0, .ref 7), (1, .ref 8), (2, .ref 159), (3, .int (nI (i)))] [] bc bs Q := by
  refine aX_aload_n dL_law_605 rfl ?_
  refine aX_aload_n dL_law_606 rfl ?_
  refine aX_iload_n dL_law_607 rfl ?_
  refine aX_iconst (v := nI 1) dL_law_608 (by decide) ?_
  refine nAdd dL_law_609 ?_
  refine nEld dL_law_610 aE7 (by omega) (by omega) rfl ?_
  refine aX_aload_n dL_law_611 rfl ?_
  refine aX_iload_n dL_law_612 rfl ?_
  refine aX_iconst (v := nI 2) dL_law_613 (by decide) ?_
  refine nAdd dL_law_614 ?_
  refine nEld dL_law_615 aE7 (by omega) (by omega) rfl ?_
  refine cV (As := [.int (xs (i + 1)), .int (xs (i + 2))]) (st := []) dL_law_616 kL_law_84 s8 aEokL rfl rfl (Nat.le_of_ble_eq_true rfl) (c10_place hR hz) (fun r h' hq => ?_)
  obtain ⟨rfl, I1, L1, rfl, hz1, k1, l1⟩ := hq
  refine ⟨rfl, ?_⟩
  refine aX_aload_n dL_law_619 rfl ?_
  refine aX_aload_n dL_law_620 rfl ?_
  refine aX_iload_n dL_law_621 rfl ?_
  refine aX_iconst (v := nI 1) dL_law_622 (by decide) ?_
  refine nAdd dL_law_623 ?_
  refine nEld dL_law_624 aE7 (by omega) (by omega) rfl ?_
  refine aX_aload_n dL_law_625 rfl ?_
  refine aX_iload_n dL_law_626 rfl ?_
  refine aX_iconst (v := nI 2) dL_law_627 (by decide) ?_
  refine nAdd dL_law_628 ?_
  refine nEld dL_law_629 aE7 (by omega) (by omega) rfl ?_
  refine cV (As := [.int (xs (i + 1)), .int (xs (i + 2))]) (st := [.int ((oPlace z (xs (i + 1)) (xs (i + 2))).1)]) dL_law_630 kL_law_87 s159 aEokL rfl rfl (Nat.le_of_ble_eq_true rfl) (m10_place hR (mm_cl k1 l1 hm)) (fun r h' hq => ?_)
  obtain ⟨rfl, I2, L2, rfl, hm2, k2, l2⟩ := hq
  refine ⟨rfl, ?_⟩
  refine aX_icmp_eq (tgt := 806) dL_law_633 (by decide) (fun c1 => ?_) (fun c1 => ?_)
  · exact k _ _ _ (cl_mm k2 hz1) hm2
  · exact absurd rfl c1
set_option maxHeartbeats 1000000 in
theorem lw_c17 {I : Nat → Nat → Int32} {L : Nat → Nat → Int64} {R : Nat → Nat → Option Nat} (hR : aRf R) {z : jZ} (hz : clRep I z) (hm : mmRep I L z) {n i bc bs : Nat} {xs : Nat → Int32} {Q : Option Value → aH → Prop} (hn : n ≤ 2560) (hi : i + 5 ≤ n) (k : ∀ I' L' z', clRep I' z' → mmRep I' L' z' → aX md_law (aE0 ++ [(n, xs)]) (sh0, I', L', R) 806 [(0, .ref 7), (1, .ref 8), (2, .ref 159), (3, .int (nI (i)))] [] bc bs Q) : aX md_law (aE0 ++ [(n, xs)]) (sh0, I, L, R) 638 [(0, .ref 7), (1, .ref 8), (2, .ref 159), (3, .int (nI (i)))] [] bc bs Q := by
  refine aX_aload_n dL_law_638 rfl ?_
  refine aX_aload_n dL_law_639 rfl ?_
  refine aX_iload_n dL_law_640 rfl ?_
  refine aX_iconst (v := nI 1) dL_law_641 (by decide) ?_
  refine nAdd dL_law_642 ?_
  refine nEld dL_law_643 aE7 (by omega) (by omega) rfl ?_
  refine aX_aload_n dL_law_644 rfl ?_
  refine aX_iload_n dL_law_645 rfl ?_
  refine aX_iconst (v := nI 2) dL_law_646 (by decide) ?_
  refine nAdd dL_law_647 ?_
  refine nEld dL_law_648 aE7 (by omega) (by omega) rfl ?_
  refine cV (As := [.int (xs (i + 1)), .int (xs (i + 2))]) (st := []) dL_law_649 kL_law_88 s8 aEokL rfl rfl (Nat.le_of_ble_eq_true rfl) (c10_move hR hz) (fun r h' hq => ?_)
  obtain ⟨rfl, I1, L1, rfl, hz1, k1, l1⟩ := hq
  refine ⟨rfl, ?_⟩
  refine aX_aload_n dL_law_652 rfl ?_
  refine aX_aload_n dL_law_653 rfl ?_
  refine aX_iload_n dL_law_654 rfl ?_
  refine aX_iconst (v := nI 1) dL_law_655 (by decide) ?_
  refine nAdd dL_law_656 ?_
  refine nEld dL_law_657 aE7 (by omega) (by omega) rfl ?_
  refine aX_aload_n dL_law_658 rfl ?_
  refine aX_iload_n dL_law_659 rfl ?_
  refine aX_iconst (v := nI 2) dL_law_660 (by decide) ?_
  refine nAdd dL_law_661 ?_
  refine nEld dL_law_662 aE7 (by omega) (by omega) rfl ?_
  refine cV (As := [.int (xs (i + 1)), .int (xs (i + 2))]) (st := [.int ((oMove z (xs (i + 1)) (xs (i + 2))).1)]) dL_law_663 kL_law_91 s159 aEokL rfl rfl (Nat.le_of_ble_eq_true rfl) (m10_move hR (mm_cl k1 l1 hm)) (fun r h' hq => ?_)
  obtain ⟨rfl, I2, L2, rfl, hm2, k2, l2⟩ := hq
  refine ⟨rfl, ?_⟩
  refine aX_icmp_eq (tgt := 806) dL_law_666 (by decide) (fun c1 => ?_) (fun c1 => ?_)
  · exact k _ _ _ (cl_mm k2 hz1) hm2
  · exact absurd rfl c1
set_option maxHeartbeats 1000000 in
theorem lw_c18 {I : Nat → Nat → Int32} {L : Nat → Nat → Int64} {R : Nat → Nat → Option Nat} (hR : aRf R) {z : jZ} (hz : clRep I z) (hm : mmRep I L z) {n i bc bs : Nat} {xs : Nat → Int32} {Q : Option Value → aH → Prop} (hn : n ≤ 2560) (hi : i + 5 ≤ n) (k : ∀ I' L' z', clRep I' z' → mmRep I' L' z' → aX md_law (aE0 ++ [(n, xs)]) (sh0, I', L', R) 806 [(0, .ref 7), (1, .ref 8), (2, .ref 159), (3, .int (nI (i)))] [] bc bs Q) : aX md_law (aE0 ++ [(n, xs)]) (sh0, I, L, R) 671 [(0, .ref 7), (1, .ref 8), (2, .ref 159), (3, .int (nI (i)))] [] bc bs Q := by
  refine aX_aload_n dL_law_671 rfl ?_
  refine cV (As := []) (st := []) dL_law_672 kL_law_92 s8 aEokL rfl rfl (Nat.le_of_ble_eq_true rfl) (c10_energy hR hz) (fun r h' hq => ?_)
  obtain ⟨rfl, I1, L1, rfl, hz1, k1, l1⟩ := hq
  refine ⟨rfl, ?_⟩
  refine aX_aload_n dL_law_675 rfl ?_
  refine cV (As := []) (st := [.int ((oEnergy z).1)]) dL_law_676 kL_law_95 s159 aEokL rfl rfl (Nat.le_of_ble_eq_true rfl) (m10_energy hR (mm_cl k1 l1 hm)) (fun r h' hq => ?_)
  obtain ⟨rfl, I2, L2, rfl, hm2, k2, l2⟩ := hq
  refine ⟨rfl, ?_⟩
  refine aX_icmp_eq (tgt := 806) dL_law_679 (by decide) (fun c1 => ?_) (fun c1 => ?_)
  · exact k _ _ _ (cl_mm k2 hz1) hm2
  · exact absurd rfl c1
set_option maxHeartbeats 1000000 in
theorem lw_c19 {I : Nat → Nat → Int32} {L : Nat → Nat → Int64} {R : Nat → Nat → Option Nat} (hR : aRf R) {z : jZ} (hz : clRep I z) (hm : mmRep I L z) {n i bc bs : Nat} {xs : Nat → Int32} {Q : Option Value → aH → Prop} (hn : n ≤ 2560) (hi : i + 5 ≤ n) (k : ∀ I' L' z', clRep I' z' → mmRep I' L' z' → aX md_law (aE0 ++ [(n, xs)]) (sh0, I', L', R) 806 [(0, .ref 7), (1, .ref 8), (2, .ref 159), (3, .int (nI (i)))] [] bc bs Q) : aX md_law (aE0 ++ [(n, xs)]) (sh0, I, L, R) 684 [(0, .ref 7), (1, .ref 8), (2, .ref 159), (3, .int (nI (i)))] [] bc bs Q := by
  refine aX_aload_n dL_law_684 rfl ?_
  refine aX_aload_n dL_law_685 rfl ?_
  refine aX_iload_n dL_law_686 rfl ?_
  refine aX_iconst (v := nI 1) dL_law_687 (by decide) ?_
  refine nAdd dL_law_688 ?_
  refine nEld dL_law_689 aE7 (by omega) (by omega) rfl ?_
  refine aX_aload_n dL_law_690 rfl ?_
  refine aX_iload_n dL_law_691 rfl ?_
  refine aX_iconst (v := nI 2) dL_law_692 (by decide) ?_
  refine nAdd dL_law_693 ?_
  refine nEld dL_law_694 aE7 (by omega) (by omega) rfl ?_
  refine cV (As := [.int (xs (i + 1)), .int (xs (i + 2))]) (st := []) dL_law_695 kL_law_96 s8 aEokL rfl rfl (Nat.le_of_ble_eq_true rfl) (c10_near hR hz) (fun r h' hq => ?_)
  obtain ⟨rfl, I1, L1, rfl, hz1, k1, l1⟩ := hq
  refine ⟨rfl, ?_⟩
  refine aX_aload_n dL_law_698 rfl ?_
  refine aX_aload_n dL_law_699 rfl ?_
  refine aX_iload_n dL_law_700 rfl ?_
  refine aX_iconst (v := nI 1) dL_law_701 (by decide) ?_
  refine nAdd dL_law_702 ?_
  refine nEld dL_law_703 aE7 (by omega) (by omega) rfl ?_
  refine aX_aload_n dL_law_704 rfl ?_
  refine aX_iload_n dL_law_705 rfl ?_
  refine aX_iconst (v := nI 2) dL_law_706 (by decide) ?_
  refine nAdd dL_law_707 ?_
  refine nEld dL_law_708 aE7 (by omega) (by omega) rfl ?_
  refine cV (As := [.int (xs (i + 1)), .int (xs (i + 2))]) (st := [.int (oNear z (xs (i + 1)) (xs (i + 2)))]) dL_law_709 kL_law_99 s159 aEokL rfl rfl (Nat.le_of_ble_eq_true rfl) (m10_near hR (mm_cl k1 l1 hm)) (fun r h' hq => ?_)
  obtain ⟨rfl, I2, L2, rfl, hm2, k2, l2⟩ := hq
  refine ⟨rfl, ?_⟩
  refine aX_icmp_eq (tgt := 806) dL_law_712 (by decide) (fun c1 => ?_) (fun c1 => ?_)
  · exact k _ _ _ (cl_mm k2 hz1) hm2
  · exact absurd rfl c1
set_option maxHeartbeats 1000000 in
theorem lw_c20 {I : Nat → Nat → Int32} {L : Nat → Nat → Int64} {R : Nat → Nat → Option Nat} (hR : aRf R) {z : jZ} (hz : clRep I z) (hm : mmRep I L z) {n i bc bs : Nat} {xs : Nat → Int32} {Q : Option Value → aH → Prop} (hn : n ≤ 2560) (hi : i + 5 ≤ n) (k : ∀ I' L' z', clRep I' z' → mmRep I' L' z' → aX md_law (aE0 ++ [(n, xs)]) (sh0, I', L', R) 806 [(0, .ref 7), (1, .ref 8), (2, .ref 159), (3, .int (nI (i)))] [] bc bs Q) : aX md_law (aE0 ++ [(n, xs)]) (sh0, I, L, R) 717 [(0, .ref 7), (1, .ref 8), (2, .ref 159), (3, .int (nI (i)))] [] bc bs Q := by
  refine aX_aload_n dL_law_717 rfl ?_
  refine aX_aload_n dL_law_718 rfl ?_
  refine aX_iload_n dL_law_719 rfl ?_
  refine aX_iconst (v := nI 1) dL_law_720 (by decide) ?_
  refine nAdd dL_law_721 ?_
  refine nEld dL_law_722 aE7 (by omega) (by omega) rfl ?_
  refine cV (As := [.int (xs (i + 1))]) (st := []) dL_law_723 kL_law_100 s8 aEokL rfl rfl (Nat.le_of_ble_eq_true rfl) (c10_text hR hz) (fun r h' hq => ?_)
  obtain ⟨rfl, I1, L1, rfl, hz1, k1, l1⟩ := hq
  refine ⟨rfl, ?_⟩
  refine aX_aload_n dL_law_726 rfl ?_
  refine aX_aload_n dL_law_727 rfl ?_
  refine aX_iload_n dL_law_728 rfl ?_
  refine aX_iconst (v := nI 1) dL_law_729 (by decide) ?_
  refine nAdd dL_law_730 ?_
  refine nEld dL_law_731 aE7 (by omega) (by omega) rfl ?_
  refine cV (As := [.int (xs (i + 1))]) (st := [.int (oText z (xs (i + 1)))]) dL_law_732 kL_law_103 s159 aEokL rfl rfl (Nat.le_of_ble_eq_true rfl) (m10_text hR (mm_cl k1 l1 hm)) (fun r h' hq => ?_)
  obtain ⟨rfl, I2, L2, rfl, hm2, k2, l2⟩ := hq
  refine ⟨rfl, ?_⟩
  refine aX_icmp_eq (tgt := 806) dL_law_735 (by decide) (fun c1 => ?_) (fun c1 => ?_)
  · exact k _ _ _ (cl_mm k2 hz1) hm2
  · exact absurd rfl c1
set_option maxHeartbeats 1000000 in
theorem lw_c21 {I : Nat → Nat → Int32} {L : Nat → Nat → Int64} {R : Nat → Nat → Option Nat} (hR : aRf R) {z : jZ} (hz : clRep I z) (hm : mmRep I L z) {n i bc bs : Nat} {xs : Nat → Int32} {Q : Option Value → aH → Prop} (hn : n ≤ 2560) (hi : i + 5 ≤ n) (k : ∀ I' L' z', clRep I' z' → mmRep I' L' z' → aX md_law (aE0 ++ [(n, xs)]) (sh0, I', L', R) 806 [(0, .ref 7), (1, .ref 8), (2, .ref 159), (3, .int (nI (i)))] [] bc bs Q) : aX md_law (aE0 ++ [(n, xs)]) (sh0, I, L, R) 740 [(0, .ref 7), (1, .ref 8), (2, .ref 159), (3, .int (nI (i)))] [] bc bs Q := by
  refine aX_aload_n dL_law_740 rfl ?_
  refine aX_aload_n dL_law_741 rfl ?_
  refine aX_iload_n dL_law_742 rfl ?_
  refine aX_iconst (v := nI 1) dL_law_743 (by decide) ?_
  refine nAdd dL_law_744 ?_
  refine nEld dL_law_745 aE7 (by omega) (by omega) rfl ?_
  refine aX_aload_n dL_law_746 rfl ?_
  refine aX_iload_n dL_law_747 rfl ?_
  refine aX_iconst (v := nI 2) dL_law_748 (by decide) ?_
  refine nAdd dL_law_749 ?_
  refine nEld dL_law_750 aE7 (by omega) (by omega) rfl ?_
  refine cV (As := [.int (xs (i + 1)), .int (xs (i + 2))]) (st := []) dL_law_751 kL_law_104 s8 aEokL rfl rfl (Nat.le_of_ble_eq_true rfl) (c10_pure hR hz) (fun r h' hq => ?_)
  obtain ⟨rfl, I1, L1, rfl, hz1, k1, l1⟩ := hq
  refine ⟨rfl, ?_⟩
  refine aX_aload_n dL_law_754 rfl ?_
  refine aX_aload_n dL_law_755 rfl ?_
  refine aX_iload_n dL_law_756 rfl ?_
  refine aX_iconst (v := nI 1) dL_law_757 (by decide) ?_
  refine nAdd dL_law_758 ?_
  refine nEld dL_law_759 aE7 (by omega) (by omega) rfl ?_
  refine aX_aload_n dL_law_760 rfl ?_
  refine aX_iload_n dL_law_761 rfl ?_
  refine aX_iconst (v := nI 2) dL_law_762 (by decide) ?_
  refine nAdd dL_law_763 ?_
  refine nEld dL_law_764 aE7 (by omega) (by omega) rfl ?_
  refine cV (As := [.int (xs (i + 1)), .int (xs (i + 2))]) (st := [.int (oPure z (xs (i + 1)) (xs (i + 2)))]) dL_law_765 kL_law_107 s159 aEokL rfl rfl (Nat.le_of_ble_eq_true rfl) (m10_pure hR (mm_cl k1 l1 hm)) (fun r h' hq => ?_)
  obtain ⟨rfl, I2, L2, rfl, hm2, k2, l2⟩ := hq
  refine ⟨rfl, ?_⟩
  refine aX_icmp_eq (tgt := 806) dL_law_768 (by decide) (fun c1 => ?_) (fun c1 => ?_)
  · exact k _ _ _ (cl_mm k2 hz1) hm2
  · exact absurd rfl c1
set_option maxHeartbeats 1000000 in
theorem lw_c22 {I : Nat → Nat → Int32} {L : Nat → Nat → Int64} {R : Nat → Nat → Option Nat} (hR : aRf R) {z : jZ} (hz : clRep I z) (hm : mmRep I L z) {n i bc bs : Nat} {xs : Nat → Int32} {Q : Option Value → aH → Prop} (hn : n ≤ 2560) (hi : i + 5 ≤ n) (k : ∀ I' L' z', clRep I' z' → mmRep I' L' z' → aX md_law (aE0 ++ [(n, xs)]) (sh0, I', L', R) 806 [(0, .ref 7), (1, .ref 8), (2, .ref 159), (3, .int (nI (i)))] [] bc bs Q) : aX md_law (aE0 ++ [(n, xs)]) (sh0, I, L, R) 773 [(0, .ref 7), (1, .ref 8), (2, .ref 159), (3, .int (nI (i)))] [] bc bs Q := by
  refine aX_aload_n dL_law_773 rfl ?_
  refine aX_aload_n dL_law_774 rfl ?_
  refine aX_iload_n dL_law_775 rfl ?_
  refine aX_iconst (v := nI 1) dL_law_776 (by decide) ?_
  refine nAdd dL_law_777 ?_
  refine nEld dL_law_778 aE7 (by omega) (by omega) rfl ?_
  refine aX_aload_n dL_law_779 rfl ?_
  refine aX_iload_n dL_law_780 rfl ?_
  refine aX_iconst (v := nI 2) dL_law_781 (by decide) ?_
  refine nAdd dL_law_782 ?_
  refine nEld dL_law_783 aE7 (by omega) (by omega) rfl ?_
  refine cV (As := [.int (xs (i + 1)), .int (xs (i + 2))]) (st := []) dL_law_784 kL_law_108 s8 aEokL rfl rfl (Nat.le_of_ble_eq_true rfl) (c10_pump hR hz) (fun r h' hq => ?_)
  obtain ⟨rfl, I1, L1, rfl, hz1, k1, l1⟩ := hq
  refine ⟨rfl, ?_⟩
  refine aX_aload_n dL_law_787 rfl ?_
  refine aX_aload_n dL_law_788 rfl ?_
  refine aX_iload_n dL_law_789 rfl ?_
  refine aX_iconst (v := nI 1) dL_law_790 (by decide) ?_
  refine nAdd dL_law_791 ?_
  refine nEld dL_law_792 aE7 (by omega) (by omega) rfl ?_
  refine aX_aload_n dL_law_793 rfl ?_
  refine aX_iload_n dL_law_794 rfl ?_
  refine aX_iconst (v := nI 2) dL_law_795 (by decide) ?_
  refine nAdd dL_law_796 ?_
  refine nEld dL_law_797 aE7 (by omega) (by omega) rfl ?_
  refine cV (As := [.int (xs (i + 1)), .int (xs (i + 2))]) (st := [.int (oPump z (xs (i + 1)) (xs (i + 2)))]) dL_law_798 kL_law_111 s159 aEokL rfl rfl (Nat.le_of_ble_eq_true rfl) (m10_pump hR (mm_cl k1 l1 hm)) (fun r h' hq => ?_)
  obtain ⟨rfl, I2, L2, rfl, hm2, k2, l2⟩ := hq
  refine ⟨rfl, ?_⟩
  refine aX_icmp_eq (tgt := 806) dL_law_801 (by decide) (fun c1 => ?_) (fun c1 => ?_)
  · exact k _ _ _ (cl_mm k2 hz1) hm2
  · exact absurd rfl c1
set_option maxHeartbeats 1000000 in
theorem l_law {R : Nat → Nat → Option Nat} (hR : aRf R) {n : Nat} {xs : Nat → Int32} (hn : n ≤ 2560) {bc bs : Nat} : ∀ (k9 i : Nat), i ≤ n → n - i = k9 → ∀ (I : Nat → Nat → Int32) (L : Nat → Nat → Int64) (z : jZ), clRep I z → mmRep I L z → aX md_law (aE0 ++ [(n, xs)]) (sh0, I, L, R) 18 [(0, .ref 7), (1, .ref 8), (2, .ref 159), (3, .int (nI (i)))] [] bc bs (fun r _ => r = some (.int 1)) := by
  intro k9
  induction k9 using Nat.strongRecOn with
  | _ k9 ih =>
    intro i hi hk9 I L z hz hm
    refine aX_iload_n dL_law_18 rfl ?_
    refine aX_aload_n dL_law_19 rfl ?_
    refine aX_elen dL_law_20 aE7 ?_
    refine aX_iconst (v := nI 5) dL_law_21 (by decide) ?_
    refine aX_isub dL_law_22 ?_
    refine aX_icmp_gt (tgt := 812) dL_law_23 (by decide) (fun c1 => ?_) (fun c1 => ?_)
    · refine aX_iconst (v := 1) dL_law_812 (by decide) ?_
      exact rZ dL_law_813 rfl (Or.inr rfl) rfl
    · have hi5 := lw_go hn hi c1
      refine aX_aload_n dL_law_26 rfl ?_
      refine aX_iload_n dL_law_27 rfl ?_
      refine nEld dL_law_28 aE7 (by omega) (by omega) rfl ?_
      refine aX_bipush (v := nI 31) dL_law_29 (by decide) ?_
      refine aX_iand dL_law_31 ?_
      obtain ⟨k, hk, e⟩ := and31 (xs i)
      rw [e]
      have kk : ∀ I' L' z', clRep I' z' → mmRep I' L' z' → aX md_law (aE0 ++ [(n, xs)]) (sh0, I', L', R) 806 [(0, .ref 7), (1, .ref 8), (2, .ref 159), (3, .int (nI (i)))] [] bc bs (fun r _ => r = some (.int 1)) := fun I' L' z' h1 h2 => by
        refine aX_iinc (v := nI (i + 5)) (lv' := [(0, .ref 7), (1, .ref 8), (2, .ref 159), (3, .int (nI (i + 5)))]) dL_law_806 rfl (by rw [show Int32.ofInt 5 = nI 5 from rfl, nI_add]) (by decide) rfl ?_
        refine aX_goto (tgt := 18) dL_law_809 (by decide) ?_
        exact ih (n - (i + 5)) (by omega) (i + 5) (by omega) rfl I' L' z' h1 h2
      match k, hk with
      | 0, _ => exact aX_tableIn (off := 108) (tgt := 140) dL_law_32 (by decide) (by decide) rfl (by decide) (lw_c0 hR hz hm hn hi5 kk)
      | 1, _ => exact aX_tableIn (off := 151) (tgt := 183) dL_law_32 (by decide) (by decide) rfl (by decide) (lw_c1 hR hz hm hn hi5 kk)
      | 2, _ => exact aX_tableIn (off := 164) (tgt := 196) dL_law_32 (by decide) (by decide) rfl (by decide) (lw_c2 hR hz hm hn hi5 kk)
      | 3, _ => exact aX_tableIn (off := 213) (tgt := 245) dL_law_32 (by decide) (by decide) rfl (by decide) (lw_c3 hR hz hm hn hi5 kk)
      | 4, _ => exact aX_tableIn (off := 256) (tgt := 288) dL_law_32 (by decide) (by decide) rfl (by decide) (lw_c4 hR hz hm hn hi5 kk)
      | 5, _ => exact aX_tableIn (off := 279) (tgt := 311) dL_law_32 (by decide) (by decide) rfl (by decide) (lw_c5 hR hz hm hn hi5 kk)
      | 6, _ => exact aX_tableIn (off := 312) (tgt := 344) dL_law_32 (by decide) (by decide) rfl (by decide) (lw_c6 hR hz hm hn hi5 kk)
      | 7, _ => exact aX_tableIn (off := 325) (tgt := 357) dL_law_32 (by decide) (by decide) rfl (by decide) (lw_c7 hR hz hm hn hi5 kk)
      | 8, _ => exact aX_tableIn (off := 358) (tgt := 390) dL_law_32 (by decide) (by decide) rfl (by decide) (lw_c8 hR hz hm hn hi5 kk)
      | 9, _ => exact aX_tableIn (off := 391) (tgt := 423) dL_law_32 (by decide) (by decide) rfl (by decide) (lw_c9 hR hz hm hn hi5 kk)
      | 10, _ => exact aX_tableIn (off := 444) (tgt := 476) dL_law_32 (by decide) (by decide) rfl (by decide) (lw_c10 hR hz hm hn hi5 kk)
      | 11, _ => exact aX_tableIn (off := 477) (tgt := 509) dL_law_32 (by decide) (by decide) rfl (by decide) (lw_c11 hR hz hm hn hi5 kk)
      | 12, _ => exact aX_tableIn (off := 491) (tgt := 523) dL_law_32 (by decide) (by decide) rfl (by decide) (lw_c12 hR hz hm hn hi5 kk)
      | 13, _ => exact aX_tableIn (off := 514) (tgt := 546) dL_law_32 (by decide) (by decide) rfl (by decide) (lw_c13 hR hz hm hn hi5 kk)
      | 14, _ => exact aX_tableIn (off := 527) (tgt := 559) dL_law_32 (by decide) (by decide) rfl (by decide) (lw_c14 hR hz hm hn hi5 kk)
      | 15, _ => exact aX_tableIn (off := 560) (tgt := 592) dL_law_32 (by decide) (by decide) rfl (by decide) (lw_c15 hR hz hm hn hi5 kk)
      | 16, _ => exact aX_tableIn (off := 573) (tgt := 605) dL_law_32 (by decide) (by decide) rfl (by decide) (lw_c16 hR hz hm hn hi5 kk)
      | 17, _ => exact aX_tableIn (off := 606) (tgt := 638) dL_law_32 (by decide) (by decide) rfl (by decide) (lw_c17 hR hz hm hn hi5 kk)
      | 18, _ => exact aX_tableIn (off := 639) (tgt := 671) dL_law_32 (by decide) (by decide) rfl (by decide) (lw_c18 hR hz hm hn hi5 kk)
      | 19, _ => exact aX_tableIn (off := 652) (tgt := 684) dL_law_32 (by decide) (by decide) rfl (by decide) (lw_c19 hR hz hm hn hi5 kk)
      | 20, _ => exact aX_tableIn (off := 685) (tgt := 717) dL_law_32 (by decide) (by decide) rfl (by decide) (lw_c20 hR hz hm hn hi5 kk)
      | 21, _ => exact aX_tableIn (off := 708) (tgt := 740) dL_law_32 (by decide) (by decide) rfl (by decide) (lw_c21 hR hz hm hn hi5 kk)
      | 22, _ => exact aX_tableIn (off := 741) (tgt := 773) dL_law_32 (by decide) (by decide) rfl (by decide) (lw_c22 hR hz hm hn hi5 kk)
      | j + 23, hj => exact aX_tableOut (tgt := 806) dL_law_32 (Or.inr (by rw [nZ, iZ_toInt (by omega) (by omega)]; omega)) (by decide) (kk I L z hz hm)
set_option maxRecDepth 20000 in
set_option maxHeartbeats 8000000 in
theorem law_run {n : Nat} {xs : Nat → Int32} (hn : n ≤ 2560) : aX md_law (aE0 ++ [(n, xs)]) aH0 0 [(0, .ref 7)] [] 600000 7302250 (fun r _ => r = some (.int 1)) := by
  refine aX_heap (h' := (shP 0, (fun _ _ => 0), (fun _ _ => 0), RP0)) rfl ?_
  have hz : FrZ 8 (fun _ _ => 0) (fun _ _ => 0) := fun _ _ _ => ⟨rfl, rfl⟩
  refine nNew (id := 8) (sh' := shP 1) (bc' := 599999) (bs' := 7302238) (ci := 10) dL_law_0 lnL_7 rfl rfl (fun a b r h => Nat.lt_of_lt_of_le (wP0 a b r h) (by decide)) hz (fun j => rfl) rfl (Nat.le_of_ble_eq_true rfl) (Nat.le_of_ble_eq_true rfl) rfl rfl ?_
  refine aX_dup dL_law_3 rfl ?_
  refine nCallI (As := []) (st := [.ref 8]) (bc' := 599849) (bs' := 7295912) dL_law_4 wmX10_init (Or.inl lmL_9) wiX10_init rfl rfl pnX10_init ⟨by decide, by decide⟩ rfl rfl (Nat.le_of_ble_eq_true rfl) aEokL rfl (i_X10_init hz) (Nat.le_of_ble_eq_true rfl) (Nat.le_of_ble_eq_true rfl) rfl rfl (fun ans' h' hq9 => ?_)
  obtain ⟨rfl, I1, rfl, hr1, hw1, hk1⟩ := hq9
  refine ⟨rfl, ?_⟩
  have hz1 : FrZ 159 I1 (fun _ _ => 0) := fun q j h => ⟨hk1 q j (by omega) (by omega), rfl⟩
  have hc1 := cl_made hr1 hw1 hk1
  refine aX_astore_n (lv' := [(0, .ref 7), (1, .ref 8)]) dL_law_7 (by decide) rfl ?_
  refine nNew (id := 159) (sh' := shP 152) (bc' := 599848) (bs' := 7295865) (ci := 11) dL_law_8 lnL_10 rfl rfl (fun a b r h => Nat.lt_of_lt_of_le (wP116 a b r h) (by decide)) hz1 (fun j => oP116 _ j (by decide)) rfl (Nat.le_of_ble_eq_true rfl) (Nat.le_of_ble_eq_true rfl) rfl rfl ?_
  refine aX_dup dL_law_11 rfl ?_
  refine nCallI (As := []) (st := [.ref 159]) (bc' := 599810) (bs' := 7257728) dL_law_12 wmX11_init (Or.inl lmL_12) wiX11_init rfl rfl pnX11_init ⟨by decide, by decide⟩ rfl rfl (Nat.le_of_ble_eq_true rfl) aEokL rfl (i_X11_init hz1) (Nat.le_of_ble_eq_true rfl) (Nat.le_of_ble_eq_true rfl) rfl rfl (fun ans' h' hq9 => ?_)
  obtain ⟨rfl, I2, R2, rfl, hR2, hm2, hk2⟩ := hq9
  refine ⟨rfl, ?_⟩
  refine aX_astore_n (lv' := [(0, .ref 7), (1, .ref 8), (2, .ref 159)]) dL_law_15 (by decide) rfl ?_
  refine aX_iconst (v := nI 0) dL_law_16 (by decide) ?_
  refine aX_istore_n (lv' := [(0, .ref 7), (1, .ref 8), (2, .ref 159), (3, .int (nI 0))]) dL_law_17 (by decide) rfl ?_
  exact l_law hR2 hn _ 0 (Nat.zero_le _) rfl _ _ _ (cl_mm hk2 hc1) hm2
