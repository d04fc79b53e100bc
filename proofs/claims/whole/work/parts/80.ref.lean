/-! THE REFERENCE: choose, the ways -/
def bsA (f : Nat → Int64) (o : Nat) : Int64 := if o = 0 then 0 else f (jArg f o)
theorem jArg_1 (f : Nat → Int64) : jArg f 1 = 0 := by show (if f 0 < f 0 then 0 else 0) = 0; split <;> rfl
theorem bsA_0 (f : Nat → Int64) : f 0 = bsA f 1 := by unfold bsA; rw [if_neg (by decide), jArg_1]
theorem bsA_lt {f : Nat → Int64} {o : Nat} (h0 : 0 < o) (h : ¬ bsA f o ≤ f o) : f o = bsA f (o + 1) ∧ o = jArg f (o + 1) := by
  have h2 : f o < f (jArg f o) := by unfold bsA at h; rw [if_neg (by omega)] at h; exact Int64.not_le.mp h
  have e : jArg f (o + 1) = o := if_pos h2
  unfold bsA; rw [if_neg (by omega), e]; exact ⟨rfl, rfl⟩
theorem bsA_ge {f : Nat → Int64} {o : Nat} (h0 : 0 < o) (h : bsA f o ≤ f o) : bsA f o = bsA f (o + 1) ∧ jArg f o = jArg f (o + 1) := by
  have h2 : ¬ f o < f (jArg f o) := by unfold bsA at h; rw [if_neg (by omega)] at h; exact Int64.not_lt.mpr h
  have e : jArg f (o + 1) = jArg f o := if_neg h2
  unfold bsA; rw [if_neg (by omega), if_neg (by omega), e]; exact ⟨rfl, rfl⟩
theorem cost_last {s : jN} {r : jR} {w : jW} {k rd : Nat} (hk : k + 1 = (jS s).length) : jCost s r w ((jS s).length - 1 - k) rd = jAh s r w k rd := by
  rw [show (jS s).length - 1 - k = 0 by omega]
  show jAh s r w ((jS s).length - 1) rd = _
  rw [show (jS s).length - 1 = k by omega]
theorem cost_step {s : jN} {r : jR} {w : jW} {k rd : Nat} (hk : k + 1 < (jS s).length) : jCost s r w ((jS s).length - 1 - k) rd = jAh s r w k rd + (jMin (jGo s r w k rd) (jCn s r (k + 1))).1 := by
  obtain ⟨d, hd⟩ : ∃ d, (jS s).length - 1 - k = d + 1 := ⟨(jS s).length - 1 - k - 1, by omega⟩
  have e1 : (jS s).length - 1 - (d + 1) = k := by omega
  have e2 : (jS s).length - 1 - (k + 1) = d := by omega
  rw [hd]
  show jAh s r w ((jS s).length - 1 - (d + 1)) rd + (jMin (fun o => jCost s r w d o + (nI (w 1)).toInt64 * jStrain s r ((jS s).length - 1 - (d + 1)) rd o) (jCn s r ((jS s).length - 1 - (d + 1) + 1))).1 = _
  rw [e1]
  have e3 : jGo s r w k rd = fun o => jCost s r w d o + (nI (w 1)).toInt64 * jStrain s r k rd o := by
    funext o; unfold jGo; rw [e2]
  rw [e3]
theorem jCn_q {s : jN} {r : jR} {k : Nat} {q : Nat × Nat} (hq : (jS s)[k]? = some q) (h : jCo s r q.1 ≤ 64) : jCn s r k = jCo s r q.1 := by
  unfold jCn; rw [jB_of hq, Nat.min_eq_left h]
theorem jGo_lt {s : jN} (ho : jOk s) (h6 : jSix s) {r : jR} (hr : rOk r) (hg : rGood r) {w : jW} (hw : wOk w) (hp : ∀ k, k < (jS s).length → 0 < jCn s r k) {k : Nat} (hk : k + 1 < (jS s).length) (rd o : Nat) : jGo s r w k rd o < 4611686018427387904 := by
  obtain ⟨h1, h2, h3⟩ := jGo_eq ho h6 hr hg hw hp hk rd o
  rw [h1, show (4611686018427387904 : Int64) = lZ 4611686018427387904 from rfl, lZ_lt (by omega) (by omega) (by omega) (by omega)]
  exact h3
theorem least_step {s : jN} (ho : jOk s) (h6 : jSix s) {r : jR} (hr : rOk r) (hg : rGood r) {w : jW} (hw : wOk w) (hp : ∀ k, k < (jS s).length → 0 < jCn s r k) {k rd : Nat} (hk : k + 1 < (jS s).length) {q q1 : Nat × Nat} (hq : (jS s)[k]? = some q) (hq1 : (jS s)[k + 1]? = some q1) (h1 : 0 < jCo s r q1.1) (h2 : jCo s r q1.1 ≤ 64) : bsA (jGo s r w k rd) (jCo s r q1.1) + (nI (w 0)).toInt64 * (jHarsh s r q.1 rd).toInt64 = jCost s r w ((jS s).length - 1 - k) rd := by
  rw [cost_step hk, jCn_q hq1 h2, jMin_arg _ h1 (fun o _ => jGo_lt ho h6 hr hg hw hp hk rd o)]
  unfold bsA jAh
  rw [if_neg (by omega), jB_of hq, Int64.add_comm]
theorem least_last {s : jN} {r : jR} {w : jW} {k rd : Nat} (hk : k + 1 = (jS s).length) {q : Nat × Nat} (hq : (jS s)[k]? = some q) : (0 : Int64) + (nI (w 0)).toInt64 * (jHarsh s r q.1 rd).toInt64 = jCost s r w ((jS s).length - 1 - k) rd := by
  rw [cost_last hk, Int64.zero_add]; unfold jAh; rw [jB_of hq]
def lsAll (L : Nat → Nat → Int64) (s : jN) (r : jR) (w : jW) (k0 : Nat) : Prop := ∀ (k : Nat) (q : Nat × Nat) (rd : Nat), k0 ≤ k → (jS s)[k]? = some q → rd < jCo s r q.1 → L 180 (64 * k + rd) = jCost s r w ((jS s).length - 1 - k) rd
set_option maxHeartbeats 1000000 in
theorem mc_p3c {I : Nat → Nat → Int32} {L : Nat → Nat → Int64} {R : Nat → Nat → Option Nat} (hR : aRf R) {s : jN} (hs : mnRep I s) (ho : jOk s) (h6 : jSix s) (hS : msRep I s (jS s)) {r : jR} (hl : mlRep I r) (hcn : mcRep I s r) (hg : rGood r) {w : jW} (hw : mwRep I w) (hcz : ∀ (k : Nat) (q : Nat × Nat), (jS s)[k]? = some q → 0 < jCo s r q.1 ∧ jCo s r q.1 ≤ 64) (htg : tgAll I s r (jS s).length) {k rd : Nat} (hk : k + 1 < (jS s).length) {q q1 : Nat × Nat} (hq : (jS s)[k]? = some q) (hq1 : (jS s)[k + 1]? = some q1) (hrd : rd < jCo s r q.1) (hls : lsAll L s r w (k + 1)) {Q : Option Value → aH → Prop} (kk : aX mX11_choose aE0 (sh0, I, L, R) 290 [(0, .ref 159), (1, .int (bI true)), (2, .int (bI false)), (3, .int (nI k)), (4, .int (nI rd)), (5, .long (bsA (jGo s r w k rd) (jCo s r q1.1))), (7, .int (nI (jCo s r q1.1)))] [] 0 0 Q) : ∀ (k9 o : Nat), o ≤ jCo s r q1.1 → (jCo s r q1.1) - o = k9 → aX mX11_choose aE0 (sh0, I, L, R) 205 [(0, .ref 159), (1, .int (bI (true))), (2, .int (bI (false))), (3, .int (nI (k))), (4, .int (nI (rd))), (5, .long (bsA (jGo s r w k rd) o)), (7, .int (nI (o)))] [] 0 0 Q := by
  intro k9
  induction k9 using Nat.strongRecOn with
  | _ k9 ih =>
    intro o hi hk9  
    have hn := ho.1
    have hSl := jS_len s
    have hpp : ∀ k, k < (jS s).length → 0 < jCn s r k := fun k hk => by
      obtain ⟨q, hq⟩ : ∃ q, (jS s)[k]? = some q := ⟨_, List.getElem?_eq_getElem hk⟩
      rw [jCn_q hq (hcz k q hq).2]; exact (hcz k q hq).1
    have hw0 := hw.1.1
    have hw1 := hw.1.2 1 (by decide) (by decide)
    have hc0 := (hcz k q hq).2
    have hc1 := (hcz (k + 1) q1 hq1).2
    refine aX_iload_n dX11_choose_205 rfl ?_
    refine aX_iconst (v := nI 1) dX11_choose_206 (by decide) ?_
    refine nAdd dX11_choose_207 ?_
    refine aX_aload_n dX11_choose_208 rfl ?_
    refine aX_get (v := .int (nI ((jS s).length))) dX11_choose_209 lfX11_154 s159 (congrArg Value.int (hS.1)) ?_
    refine nGe (tgt := 290) dX11_choose_212 (by decide) (by first | omega | exact Nat.lt_of_le_of_lt (Nat.mod_le _ _) (by omega)) (by first | omega | exact Nat.lt_of_le_of_lt (Nat.mod_le _ _) (by omega)) (fun c1 => ?_) (fun c1 => ?_)
    · exact absurd c1 (by omega)
    · refine aX_iload dX11_choose_215 rfl ?_
      refine aX_aload_n dX11_choose_217 rfl ?_
      refine aX_get dX11_choose_218 lfX11_66 s159 (f159_20 hR) ?_
      refine aX_iload_n dX11_choose_221 rfl ?_
      refine aX_iconst (v := nI 1) dX11_choose_222 (by decide) ?_
      refine nAdd dX11_choose_223 ?_
      refine nIald (v := nI (jCo s r q1.1)) dX11_choose_224 s176 (by first | omega | exact Nat.lt_of_le_of_lt (Nat.mod_le _ _) (by omega)) (by decide) (hcn.2.2 (k + 1) q1 hq1) ?_
      refine nGe (tgt := 290) dX11_choose_225 (by decide) (by first | omega | exact Nat.lt_of_le_of_lt (Nat.mod_le _ _) (by omega)) (by first | omega | exact Nat.lt_of_le_of_lt (Nat.mod_le _ _) (by omega)) (fun c2 => ?_) (fun c2 => ?_)
      · obtain rfl : o = jCo s r q1.1 := by omega
        exact kk
      · refine aX_aload_n dX11_choose_228 rfl ?_
        refine aX_get dX11_choose_229 lfX11_78 s159 (f159_25 hR) ?_
        refine aX_bipush (v := nI 64) dX11_choose_232 (by decide) ?_
        refine aX_iload_n dX11_choose_234 rfl ?_
        refine aX_iconst (v := nI 1) dX11_choose_235 (by decide) ?_
        refine nAdd dX11_choose_236 ?_
        refine nMul dX11_choose_237 ?_
        refine aX_iload dX11_choose_238 rfl ?_
        refine nAdd dX11_choose_240 ?_
        refine nLald (v := jCost s r w ((jS s).length - 1 - (k + 1)) o) dX11_choose_241 s180 (by first | omega | exact Nat.lt_of_le_of_lt (Nat.mod_le _ _) (by omega)) (by decide) (hls (k + 1) q1 o (Nat.le_refl _) hq1 (by omega)) ?_
        refine aX_aload_n dX11_choose_242 rfl ?_
        refine aX_get dX11_choose_243 lfX11_48 s159 (f159_11 hR) ?_
        refine aX_iconst (v := nI 1) dX11_choose_246 (by decide) ?_
        refine nIald (v := nI (w 1)) dX11_choose_247 s170 (by first | omega | exact Nat.lt_of_le_of_lt (Nat.mod_le _ _) (by omega)) (by decide) (hw.2 1 (by decide)) ?_
        refine aX_i2l dX11_choose_248 ?_
        refine aX_aload_n dX11_choose_249 rfl ?_
        refine aX_iload_n dX11_choose_250 rfl ?_
        refine aX_iload dX11_choose_251 rfl ?_
        refine aX_iload dX11_choose_253 rfl ?_
        refine cVp (As := [.int (nI (k)), .int (nI (rd)), .int (nI (o))]) (st := [.long ((nI (w 1)).toInt64), .long (jCost s r w ((jS s).length - 1 - (k + 1)) o)]) (v := .long (jStrain s r k rd o)) dX11_choose_255 kX11_choose_205 s159 aEok0 rfl rfl (Nat.le_of_ble_eq_true rfl) (m_strain hR hs ho h6 hS hl.1 hg hk (by omega) (by omega) (tgRep_of hq (fun m hm h2 => htg k q rd m (by omega) hq hrd hm h2)) (tgRep_of hq1 (fun m hm h2 => htg (k + 1) q1 o m (by omega) hq1 (by omega) hm h2))) ?_
        refine aX_lmul dX11_choose_258 ?_
        refine aX_ladd dX11_choose_259 ?_
        refine aX_lstore (lv' := [(0, .ref 159), (1, .int (bI (true))), (2, .int (bI (false))), (3, .int (nI (k))), (4, .int (nI (rd))), (5, .long (bsA (jGo s r w k rd) o)), (7, .int (nI (o))), (8, .long ((jCost s r w ((jS s).length - 1 - (k + 1)) o) + (((nI (w 1)).toInt64) * (jStrain s r k rd o))))]) dX11_choose_260 (by decide) rfl ?_
        refine aX_iload dX11_choose_262 rfl ?_
        refine nIf_eq (tgt := 275) dX11_choose_264 (by decide) (by first | omega | exact Nat.lt_of_le_of_lt (Nat.mod_le _ _) (by omega)) (fun c3 => ?_) (fun c3 => ?_)
        · refine aX_lload dX11_choose_275 rfl ?_
          refine aX_goto (tgt := 282) dX11_choose_277 (by decide) ?_
          refine aX_lstore (lv' := [(0, .ref 159), (1, .int (bI (true))), (2, .int (bI (false))), (3, .int (nI (k))), (4, .int (nI (rd))), (5, .long ((jCost s r w ((jS s).length - 1 - (k + 1)) o) + (((nI (w 1)).toInt64) * (jStrain s r k rd o)))), (7, .int (nI (o))), (8, .long ((jCost s r w ((jS s).length - 1 - (k + 1)) o) + (((nI (w 1)).toInt64) * (jStrain s r k rd o))))]) dX11_choose_282 (by decide) rfl ?_
          refine nInc (lv' := [(0, .ref 159), (1, .int (bI (true))), (2, .int (bI (false))), (3, .int (nI (k))), (4, .int (nI (rd))), (5, .long ((jCost s r w ((jS s).length - 1 - (k + 1)) o) + (((nI (w 1)).toInt64) * (jStrain s r k rd o)))), (7, .int (nI (o + 1))), (8, .long ((jCost s r w ((jS s).length - 1 - (k + 1)) o) + (((nI (w 1)).toInt64) * (jStrain s r k rd o))))]) dX11_choose_284 rfl rfl (by decide) rfl ?_
          refine aX_goto (tgt := 205) dX11_choose_287 (by decide) ?_
          refine aX_lv (lv' := [(0, .ref 159), (1, .int (bI (true))), (2, .int (bI (false))), (3, .int (nI (k))), (4, .int (nI (rd))), (5, .long ((jCost s r w ((jS s).length - 1 - (k + 1)) o) + (((nI (w 1)).toInt64) * (jStrain s r k rd o)))), (7, .int (nI (o + 1)))]) [0, 1, 2, 3, 4, 5, 6] rfl ?_
          obtain rfl : o = 0 := by omega
          rw [show jCost s r w ((jS s).length - 1 - (k + 1)) 0 + (nI (w 1)).toInt64 * jStrain s r k rd 0 = bsA (jGo s r w k rd) 1 from bsA_0 (jGo s r w k rd)]
          exact ih (jCo s r q1.1 - (0 + 1)) (by omega) (0 + 1) (by omega) rfl
        · refine aX_lload dX11_choose_267 rfl ?_
          refine aX_lload dX11_choose_269 rfl ?_
          refine aX_lcmp dX11_choose_271 ?_
          refine lIf_ge (tgt := 280) dX11_choose_272 (by decide) (fun c4 => ?_) (fun c4 => ?_)
          · refine aX_lload dX11_choose_280 rfl ?_
            refine aX_lstore (lv' := [(0, .ref 159), (1, .int (bI (true))), (2, .int (bI (false))), (3, .int (nI (k))), (4, .int (nI (rd))), (5, .long (bsA (jGo s r w k rd) o)), (7, .int (nI (o))), (8, .long ((jCost s r w ((jS s).length - 1 - (k + 1)) o) + (((nI (w 1)).toInt64) * (jStrain s r k rd o))))]) dX11_choose_282 (by decide) rfl ?_
            refine nInc (lv' := [(0, .ref 159), (1, .int (bI (true))), (2, .int (bI (false))), (3, .int (nI (k))), (4, .int (nI (rd))), (5, .long (bsA (jGo s r w k rd) o)), (7, .int (nI (o + 1))), (8, .long ((jCost s r w ((jS s).length - 1 - (k + 1)) o) + (((nI (w 1)).toInt64) * (jStrain s r k rd o))))]) dX11_choose_284 rfl rfl (by decide) rfl ?_
            refine aX_goto (tgt := 205) dX11_choose_287 (by decide) ?_
            refine aX_lv (lv' := [(0, .ref 159), (1, .int (bI (true))), (2, .int (bI (false))), (3, .int (nI (k))), (4, .int (nI (rd))), (5, .long (bsA (jGo s r w k rd) o)), (7, .int (nI (o + 1)))]) [0, 1, 2, 3, 4, 5, 6] rfl ?_
            rw [(bsA_ge (f := (jGo s r w k rd)) (by omega) c4).1]
            exact ih (jCo s r q1.1 - (o + 1)) (by omega) (o + 1) (by omega) rfl
          · refine aX_lload dX11_choose_275 rfl ?_
            refine aX_goto (tgt := 282) dX11_choose_277 (by decide) ?_
            refine aX_lstore (lv' := [(0, .ref 159), (1, .int (bI (true))), (2, .int (bI (false))), (3, .int (nI (k))), (4, .int (nI (rd))), (5, .long ((jCost s r w ((jS s).length - 1 - (k + 1)) o) + (((nI (w 1)).toInt64) * (jStrain s r k rd o)))), (7, .int (nI (o))), (8, .long ((jCost s r w ((jS s).length - 1 - (k + 1)) o) + (((nI (w 1)).toInt64) * (jStrain s r k rd o))))]) dX11_choose_282 (by decide) rfl ?_
            refine nInc (lv' := [(0, .ref 159), (1, .int (bI (true))), (2, .int (bI (false))), (3, .int (nI (k))), (4, .int (nI (rd))), (5, .long ((jCost s r w ((jS s).length - 1 - (k + 1)) o) + (((nI (w 1)).toInt64) * (jStrain s r k rd o)))), (7, .int (nI (o + 1))), (8, .long ((jCost s r w ((jS s).length - 1 - (k + 1)) o) + (((nI (w 1)).toInt64) * (jStrain s r k rd o))))]) dX11_choose_284 rfl rfl (by decide) rfl ?_
            refine aX_goto (tgt := 205) dX11_choose_287 (by decide) ?_
            refine aX_lv (lv' := [(0, .ref 159), (1, .int (bI (true))), (2, .int (bI (false))), (3, .int (nI (k))), (4, .int (nI (rd))), (5, .long ((jCost s r w ((jS s).length - 1 - (k + 1)) o) + (((nI (w 1)).toInt64) * (jStrain s r k rd o)))), (7, .int (nI (o + 1)))]) [0, 1, 2, 3, 4, 5, 6] rfl ?_
            rw [show jCost s r w ((jS s).length - 1 - (k + 1)) o + (nI (w 1)).toInt64 * jStrain s r k rd o = bsA (jGo s r w k rd) (o + 1) from (bsA_lt (f := (jGo s r w k rd)) (by omega) c4).1]
            exact ih (jCo s r q1.1 - (o + 1)) (by omega) (o + 1) (by omega) rfl
set_option maxHeartbeats 1000000 in
theorem mc_p3b {I : Nat → Nat → Int32} {L : Nat → Nat → Int64} {R : Nat → Nat → Option Nat} (hR : aRf R) {s : jN} (hs : mnRep I s) (ho : jOk s) (h6 : jSix s) (hS : msRep I s (jS s)) {r : jR} (hl : mlRep I r) (hcn : mcRep I s r) (hg : rGood r) {w : jW} (hw : mwRep I w) (hcz : ∀ (k : Nat) (q : Nat × Nat), (jS s)[k]? = some q → 0 < jCo s r q.1 ∧ jCo s r q.1 ≤ 64) (htg : tgAll I s r (jS s).length) {k : Nat} {q : Nat × Nat} (hq : (jS s)[k]? = some q) (hls : lsAll L s r w (k + 1)) {Q : Option Value → aH → Prop} (kk : ∀ L2 : Nat → Nat → Int64, (∀ x, x < jCo s r q.1 → L2 180 (64 * k + x) = jCost s r w ((jS s).length - 1 - k) x) → (∀ a j, ¬ (a = 180 ∧ j < 64 * (k + 1)) → L2 a j = L a j) → aX mX11_choose aE0 (sh0, I, L2, R) 327 [(0, .ref 159), (1, .int (bI true)), (2, .int (bI false)), (3, .int (nI k)), (4, .int (nI (jCo s r q.1)))] [] 0 0 Q) : ∀ (k9 rd : Nat), rd ≤ jCo s r q.1 → (jCo s r q.1) - rd = k9 → ∀ (L1 : Nat → Nat → Int64), (∀ x, x < rd → L1 180 (64 * k + x) = jCost s r w ((jS s).length - 1 - k) x) → (∀ a j, ¬ (a = 180 ∧ j < 64 * (k + 1)) → L1 a j = L a j) → aX mX11_choose aE0 (sh0, I, L1, R) 188 [(0, .ref 159), (1, .int (bI (true))), (2, .int (bI (false))), (3, .int (nI (k))), (4, .int (nI (rd)))] [] 0 0 Q := by
  intro k9
  induction k9 using Nat.strongRecOn with
  | _ k9 ih =>
    intro rd hi hk9 L1  hin hkl1
    have hn := ho.1
    have hSl := jS_len s
    have hpp : ∀ k, k < (jS s).length → 0 < jCn s r k := fun k hk => by
      obtain ⟨q, hq⟩ : ∃ q, (jS s)[k]? = some q := ⟨_, List.getElem?_eq_getElem hk⟩
      rw [jCn_q hq (hcz k q hq).2]; exact (hcz k q hq).1
    have hw0 := hw.1.1
    have hw1 := hw.1.2 1 (by decide) (by decide)
    have hkk : k < (jS s).length := (List.getElem?_eq_some_iff.mp hq).1
    have hc0 := (hcz k q hq).2
    refine aX_iload dX11_choose_188 rfl ?_
    refine aX_aload_n dX11_choose_190 rfl ?_
    refine aX_get dX11_choose_191 lfX11_66 s159 (f159_20 hR) ?_
    refine aX_iload_n dX11_choose_194 rfl ?_
    refine nIald (v := nI (jCo s r q.1)) dX11_choose_195 s176 (by first | omega | exact Nat.lt_of_le_of_lt (Nat.mod_le _ _) (by omega)) (by decide) (hcn.2.2 k q hq) ?_
    refine nGe (tgt := 327) dX11_choose_196 (by decide) (by first | omega | exact Nat.lt_of_le_of_lt (Nat.mod_le _ _) (by omega)) (by first | omega | exact Nat.lt_of_le_of_lt (Nat.mod_le _ _) (by omega)) (fun c1 => ?_) (fun c1 => ?_)
    · obtain rfl : rd = jCo s r q.1 := by omega
      exact kk L1 hin hkl1
    · refine aX_lconst (v := 0) dX11_choose_199 rfl ?_
      refine aX_lstore (lv' := [(0, .ref 159), (1, .int (bI (true))), (2, .int (bI (false))), (3, .int (nI (k))), (4, .int (nI (rd))), (5, .long ((0 : Int64)))]) dX11_choose_200 (by decide) rfl ?_
      refine aX_iconst (v := nI 0) dX11_choose_202 (by decide) ?_
      refine aX_istore (lv' := [(0, .ref 159), (1, .int (bI (true))), (2, .int (bI (false))), (3, .int (nI (k))), (4, .int (nI (rd))), (5, .long ((0 : Int64))), (7, .int (nI (0)))]) dX11_choose_203 (by decide) rfl ?_
      by_cases hk2 : k + 1 < (jS s).length
      · obtain ⟨q1, hq1⟩ : ∃ q1, (jS s)[k + 1]? = some q1 := ⟨_, List.getElem?_eq_getElem hk2⟩
        refine mc_p3c hR hs ho h6 hS hl hcn hg hw hcz htg hk2 hq hq1 (by omega) (fun k' q' x a b d => ?_) ?_ _ 0 (by omega) rfl
        · rw [hkl1 _ _ (by omega)]; exact hls k' q' x a b d
        · refine aX_aload_n dX11_choose_290 rfl ?_
          refine aX_get dX11_choose_291 lfX11_78 s159 (f159_25 hR) ?_
          refine aX_bipush (v := nI 64) dX11_choose_294 (by decide) ?_
          refine aX_iload_n dX11_choose_296 rfl ?_
          refine nMul dX11_choose_297 ?_
          refine aX_iload dX11_choose_298 rfl ?_
          refine nAdd dX11_choose_300 ?_
          refine aX_lload dX11_choose_301 rfl ?_
          refine aX_aload_n dX11_choose_303 rfl ?_
          refine aX_get dX11_choose_304 lfX11_48 s159 (f159_11 hR) ?_
          refine aX_iconst (v := nI 0) dX11_choose_307 (by decide) ?_
          refine nIald (v := nI (w 0)) dX11_choose_308 s170 (by first | omega | exact Nat.lt_of_le_of_lt (Nat.mod_le _ _) (by omega)) (by decide) (hw.2 0 (by decide)) ?_
          refine aX_i2l dX11_choose_309 ?_
          refine aX_aload_n dX11_choose_310 rfl ?_
          refine aX_iload_n dX11_choose_311 rfl ?_
          refine aX_iload dX11_choose_312 rfl ?_
          refine cVp (As := [.int (nI (k)), .int (nI (rd))]) (st := [.long ((nI (w 0)).toInt64), .long (bsA (jGo s r w k rd) (jCo s r q1.1)), .int (nI ((64 * k) + rd)), .ref 180]) (v := .int (jHarsh s r q.1 rd)) dX11_choose_314 kX11_choose_198 s159 aEok0 rfl rfl (Nat.le_of_ble_eq_true rfl) (m_harshOf hR hs ho hS hl hq (jCo_pos (hcz k q hq).1) (by omega)) ?_
          refine aX_i2l dX11_choose_317 ?_
          refine aX_lmul dX11_choose_318 ?_
          refine aX_ladd dX11_choose_319 ?_
          refine nLast dX11_choose_320 s180 (by first | omega | exact Nat.lt_of_le_of_lt (Nat.mod_le _ _) (by omega)) (by decide) ?_
          rw [show (bsA (jGo s r w k rd) (jCo s r q1.1)) + (((nI (w 0)).toInt64) * ((jHarsh s r q.1 rd).toInt64)) = jCost s r w ((jS s).length - 1 - k) rd from least_step ho h6 hl.1 hg hw.1 hpp hk2 hq hq1 (hcz (k + 1) q1 hq1).1 (hcz (k + 1) q1 hq1).2]
          refine nInc (lv' := [(0, .ref 159), (1, .int (bI (true))), (2, .int (bI (false))), (3, .int (nI (k))), (4, .int (nI (rd + 1))), (5, .long (bsA (jGo s r w k rd) (jCo s r q1.1))), (7, .int (nI (jCo s r q1.1)))]) dX11_choose_321 rfl rfl (by decide) rfl ?_
          refine aX_goto (tgt := 188) dX11_choose_324 (by decide) ?_
          refine aX_lv (lv' := [(0, .ref 159), (1, .int (bI (true))), (2, .int (bI (false))), (3, .int (nI (k))), (4, .int (nI (rd + 1)))]) [0, 1, 2, 3, 4] rfl ?_
          exact ih (jCo s r q.1 - (rd + 1)) (by omega) (rd + 1) (by omega) rfl _ (fun x hx => by
            by_cases e : x = rd
            · subst e; rw [aU_s]
            · rw [aU_n (by omega)]; exact hin x (by omega)) (fun a j g => by rw [aU_n (by omega)]; exact hkl1 a j g)
      · refine aX_iload_n dX11_choose_205 rfl ?_
        refine aX_iconst (v := nI 1) dX11_choose_206 (by decide) ?_
        refine nAdd dX11_choose_207 ?_
        refine aX_aload_n dX11_choose_208 rfl ?_
        refine aX_get (v := .int (nI ((jS s).length))) dX11_choose_209 lfX11_154 s159 (congrArg Value.int (hS.1)) ?_
        refine nGe (tgt := 290) dX11_choose_212 (by decide) (by first | omega | exact Nat.lt_of_le_of_lt (Nat.mod_le _ _) (by omega)) (by first | omega | exact Nat.lt_of_le_of_lt (Nat.mod_le _ _) (by omega)) (fun c2 => ?_) (fun c2 => ?_)
        · refine aX_aload_n dX11_choose_290 rfl ?_
          refine aX_get dX11_choose_291 lfX11_78 s159 (f159_25 hR) ?_
          refine aX_bipush (v := nI 64) dX11_choose_294 (by decide) ?_
          refine aX_iload_n dX11_choose_296 rfl ?_
          refine nMul dX11_choose_297 ?_
          refine aX_iload dX11_choose_298 rfl ?_
          refine nAdd dX11_choose_300 ?_
          refine aX_lload dX11_choose_301 rfl ?_
          refine aX_aload_n dX11_choose_303 rfl ?_
          refine aX_get dX11_choose_304 lfX11_48 s159 (f159_11 hR) ?_
          refine aX_iconst (v := nI 0) dX11_choose_307 (by decide) ?_
          refine nIald (v := nI (w 0)) dX11_choose_308 s170 (by first | omega | exact Nat.lt_of_le_of_lt (Nat.mod_le _ _) (by omega)) (by decide) (hw.2 0 (by decide)) ?_
          refine aX_i2l dX11_choose_309 ?_
          refine aX_aload_n dX11_choose_310 rfl ?_
          refine aX_iload_n dX11_choose_311 rfl ?_
          refine aX_iload dX11_choose_312 rfl ?_
          refine cVp (As := [.int (nI (k)), .int (nI (rd))]) (st := [.long ((nI (w 0)).toInt64), .long ((0 : Int64)), .int (nI ((64 * k) + rd)), .ref 180]) (v := .int (jHarsh s r q.1 rd)) dX11_choose_314 kX11_choose_198 s159 aEok0 rfl rfl (Nat.le_of_ble_eq_true rfl) (m_harshOf hR hs ho hS hl hq (jCo_pos (hcz k q hq).1) (by omega)) ?_
          refine aX_i2l dX11_choose_317 ?_
          refine aX_lmul dX11_choose_318 ?_
          refine aX_ladd dX11_choose_319 ?_
          refine nLast dX11_choose_320 s180 (by first | omega | exact Nat.lt_of_le_of_lt (Nat.mod_le _ _) (by omega)) (by decide) ?_
          rw [show ((0 : Int64)) + (((nI (w 0)).toInt64) * ((jHarsh s r q.1 rd).toInt64)) = jCost s r w ((jS s).length - 1 - k) rd from least_last (by omega) hq]
          refine nInc (lv' := [(0, .ref 159), (1, .int (bI (true))), (2, .int (bI (false))), (3, .int (nI (k))), (4, .int (nI (rd + 1))), (5, .long ((0 : Int64))), (7, .int (nI (0)))]) dX11_choose_321 rfl rfl (by decide) rfl ?_
          refine aX_goto (tgt := 188) dX11_choose_324 (by decide) ?_
          refine aX_lv (lv' := [(0, .ref 159), (1, .int (bI (true))), (2, .int (bI (false))), (3, .int (nI (k))), (4, .int (nI (rd + 1)))]) [0, 1, 2, 3, 4] rfl ?_
          exact ih (jCo s r q.1 - (rd + 1)) (by omega) (rd + 1) (by omega) rfl _ (fun x hx => by
            by_cases e : x = rd
            · subst e; rw [aU_s]
            · rw [aU_n (by omega)]; exact hin x (by omega)) (fun a j g => by rw [aU_n (by omega)]; exact hkl1 a j g)
        · exact absurd c2 (by omega)
set_option maxHeartbeats 1000000 in
theorem mc_p3 {I : Nat → Nat → Int32} {L : Nat → Nat → Int64} {R : Nat → Nat → Option Nat} (hR : aRf R) {s : jN} (hs : mnRep I s) (ho : jOk s) (h6 : jSix s) (hS : msRep I s (jS s)) {r : jR} (hl : mlRep I r) (hcn : mcRep I s r) (hg : rGood r) {w : jW} (hw : mwRep I w) (hcz : ∀ (k : Nat) (q : Nat × Nat), (jS s)[k]? = some q → 0 < jCo s r q.1 ∧ jCo s r q.1 ≤ 64) (htg : tgAll I s r (jS s).length) {Q : Option Value → aH → Prop} (kk : ∀ L2 : Nat → Nat → Int64, lsAll L2 s r w 0 → (∀ a j, a ≠ 180 → L2 a j = L a j) → aX mX11_choose aE0 (sh0, I, L2, R) 338 [(0, .ref 159), (1, .int (bI true)), (2, .int (bI false)), (3, .long 0), (5, .int (nI 0))] [] 0 0 Q) : ∀ (k9 c : Nat), c ≤ (jS s).length → c = k9 → ∀ (L1 : Nat → Nat → Int64), lsAll L1 s r w c → (∀ a j, a ≠ 180 → L1 a j = L a j) → aX mX11_choose aE0 (sh0, I, L1, R) 181 [(0, .ref 159), (1, .int (bI (true))), (2, .int (bI (false))), (3, .int (jDn c))] [] 0 0 Q := by
  intro k9
  induction k9 using Nat.strongRecOn with
  | _ k9 ih =>
    intro c hi hk9 L1  hls hkl
    have hn := ho.1
    have hSl := jS_len s
    cases c with
    | zero =>
      refine aX_iload_n dX11_choose_181 rfl ?_
      refine aX_if_lt (tgt := 333) dX11_choose_182 (by decide) (fun c1 => ?_) (fun c1 => ?_)
      · refine aX_lconst (v := 0) dX11_choose_333 rfl ?_
        refine aX_lstore_n (lv' := [(0, .ref 159), (1, .int (bI (true))), (2, .int (bI (false))), (3, .long ((0 : Int64)))]) dX11_choose_334 (by decide) rfl ?_
        refine aX_iconst (v := nI 0) dX11_choose_335 (by decide) ?_
        refine aX_istore (lv' := [(0, .ref 159), (1, .int (bI (true))), (2, .int (bI (false))), (3, .long ((0 : Int64))), (5, .int (nI (0)))]) dX11_choose_336 (by decide) rfl ?_
        exact kk L1 hls hkl
      · exact absurd (by decide) c1
    | succ c =>
      refine aX_iload_n dX11_choose_181 rfl ?_
      refine aX_if_lt (tgt := 333) dX11_choose_182 (by decide) (fun c2 => ?_) (fun c2 => ?_)
      · exact absurd c2 (nI_pos (by omega))
      · refine aX_iconst (v := nI 0) dX11_choose_185 (by decide) ?_
        refine aX_istore (lv' := [(0, .ref 159), (1, .int (bI (true))), (2, .int (bI (false))), (3, .int (nI (c))), (4, .int (nI (0)))]) dX11_choose_186 (by decide) rfl ?_
        obtain ⟨q, hq⟩ : ∃ q, (jS s)[c]? = some q := ⟨_, List.getElem?_eq_getElem (by omega)⟩
        refine mc_p3b hR (L := L1) hs ho h6 hS hl hcn hg hw hcz htg hq hls (fun L2 g1 g2 => ?_) _ 0 (by omega) rfl L1 (fun x h => by omega) (fun _ _ _ => rfl)
        refine aX_iinc (v := (nI (c)) + (-1)) (lv' := [(0, .ref 159), (1, .int (bI (true))), (2, .int (bI (false))), (3, .int ((nI (c)) + (-1))), (4, .int (nI (jCo s r q.1)))]) dX11_choose_327 rfl rfl (by decide) rfl ?_
        refine aX_goto (tgt := 181) dX11_choose_330 (by decide) ?_
        refine aX_lv (lv' := [(0, .ref 159), (1, .int (bI (true))), (2, .int (bI (false))), (3, .int ((nI (c)) + (-1)))]) [0, 1, 2, 3] rfl ?_
        refine aX_lv (lv' := [(0, .ref 159), (1, .int (bI (true))), (2, .int (bI (false))), (3, .int (jDn c))]) [0, 1, 2, 3] (by rw [← jDn_dec]; rfl) ?_
        exact ih c (by omega) c (by omega) rfl L2 (fun k' q' x a b d => by
          by_cases e : k' = c
          · subst e
            rw [hq] at b; injection b with b; subst b
            exact g1 x d
          · rw [g2 _ _ (by omega)]; exact hls k' q' x (by omega) b d) (fun a j g => (g2 a j (by omega)).trans (hkl a j g))
theorem jArg_le (f : Nat → Int64) : ∀ n, jArg f n ≤ n
  | 0 => Nat.le_refl _
  | n + 1 => by
    have := jArg_le f n
    show (if f n < f (jArg f n) then n else jArg f n) ≤ n + 1
    split <;> omega
set_option maxHeartbeats 1000000 in
theorem mc_p4a {I : Nat → Nat → Int32} {L : Nat → Nat → Int64} {R : Nat → Nat → Option Nat} (hR : aRf R) {s : jN} (hs : mnRep I s) (ho : jOk s) (h6 : jSix s) (hS : msRep I s (jS s)) {r : jR} (hl : mlRep I r) (hcn : mcRep I s r) (hg : rGood r) {w : jW} (hw : mwRep I w) (hcz : ∀ (k : Nat) (q : Nat × Nat), (jS s)[k]? = some q → 0 < jCo s r q.1 ∧ jCo s r q.1 ≤ 64) (htg : tgAll I s r (jS s).length) {k : Nat} {q : Nat × Nat} {f : Nat → Int64} (hq : (jS s)[0]? = some q) (hf : f = jCost s r w ((jS s).length - 1 - 0)) (hls : lsAll L s r w 0) {Q : Option Value → aH → Prop} {cst : Int64} (kk : aX mX11_choose aE0 (sh0, I, L, R) 447 [(0, .ref 159), (1, .int (bI true)), (2, .int (bI false)), (3, .long cst), (5, .int (nI 0)), (6, .long (bsA f (jCo s r q.1))), (8, .int (nI (jArg f (jCo s r q.1)))), (9, .int (nI (jCo s r q.1)))] [] 0 0 Q) : ∀ (k9 x : Nat), x ≤ jCo s r q.1 → (jCo s r q.1) - x = k9 → aX mX11_choose aE0 (sh0, I, L, R) 356 [(0, .ref 159), (1, .int (bI (true))), (2, .int (bI (false))), (3, .long (cst)), (5, .int (nI (0))), (6, .long (bsA f x)), (8, .int (nI (jArg f x))), (9, .int (nI (x)))] [] 0 0 Q := by
  intro k9
  induction k9 using Nat.strongRecOn with
  | _ k9 ih =>
    intro x hi hk9  
    have hn := ho.1
    have hSl := jS_len s
    have hpp : ∀ k, k < (jS s).length → 0 < jCn s r k := fun k hk => by
      obtain ⟨q, hq⟩ : ∃ q, (jS s)[k]? = some q := ⟨_, List.getElem?_eq_getElem hk⟩
      rw [jCn_q hq (hcz k q hq).2]; exact (hcz k q hq).1
    have hw0 := hw.1.1
    have hw1 := hw.1.2 1 (by decide) (by decide)
    have hc0 := (hcz (0) q hq).2
    have hax : jArg f x ≤ x := jArg_le f x
    refine aX_iload dX11_choose_356 rfl ?_
    refine aX_aload_n dX11_choose_358 rfl ?_
    refine aX_get dX11_choose_359 lfX11_66 s159 (f159_20 hR) ?_
    refine aX_iload dX11_choose_362 rfl ?_
    refine nIald (v := nI (jCo s r q.1)) dX11_choose_364 s176 (by first | omega | exact Nat.lt_of_le_of_lt (Nat.mod_le _ _) (by omega)) (by decide) (hcn.2.2 (0) q hq) ?_
    refine nGe (tgt := 447) dX11_choose_365 (by decide) (by first | omega | exact Nat.lt_of_le_of_lt (Nat.mod_le _ _) (by omega)) (by first | omega | exact Nat.lt_of_le_of_lt (Nat.mod_le _ _) (by omega)) (fun c1 => ?_) (fun c1 => ?_)
    · obtain rfl : x = jCo s r q.1 := by omega
      exact kk
    · refine aX_aload_n dX11_choose_368 rfl ?_
      refine aX_get dX11_choose_369 lfX11_78 s159 (f159_25 hR) ?_
      refine aX_bipush (v := nI 64) dX11_choose_372 (by decide) ?_
      refine aX_iload dX11_choose_374 rfl ?_
      refine nMul dX11_choose_376 ?_
      refine aX_iload dX11_choose_377 rfl ?_
      refine nAdd dX11_choose_379 ?_
      refine nLald (v := jCost s r w ((jS s).length - 1 - (0)) x) dX11_choose_380 s180 (by first | omega | exact Nat.lt_of_le_of_lt (Nat.mod_le _ _) (by omega)) (by decide) (hls (0) q x (Nat.zero_le _) hq (by omega)) ?_
      refine aX_iload dX11_choose_381 rfl ?_
      refine nIf_ne (tgt := 390) dX11_choose_383 (by decide) (by first | omega | exact Nat.lt_of_le_of_lt (Nat.mod_le _ _) (by omega)) (fun c2 => ?_) (fun c2 => ?_)
      · exact absurd c2 (by omega)
      · refine aX_lconst (v := 0) dX11_choose_386 rfl ?_
        refine aX_goto (tgt := 417) dX11_choose_387 (by decide) ?_
        refine aX_ladd dX11_choose_417 ?_
        rw [show (jCost s r w ((jS s).length - 1 - (0)) x) + ((0 : Int64)) = f x by rw [hf]; exact Int64.add_zero _]
        refine aX_lstore (lv' := [(0, .ref 159), (1, .int (bI (true))), (2, .int (bI (false))), (3, .long (cst)), (5, .int (nI (0))), (6, .long (bsA f x)), (8, .int (nI (jArg f x))), (9, .int (nI (x))), (10, .long (f x))]) dX11_choose_418 (by decide) rfl ?_
        refine aX_iload dX11_choose_420 rfl ?_
        refine nIf_eq (tgt := 433) dX11_choose_422 (by decide) (by first | omega | exact Nat.lt_of_le_of_lt (Nat.mod_le _ _) (by omega)) (fun c3 => ?_) (fun c3 => ?_)
        · refine aX_lload dX11_choose_433 rfl ?_
          refine aX_lstore (lv' := [(0, .ref 159), (1, .int (bI (true))), (2, .int (bI (false))), (3, .long (cst)), (5, .int (nI (0))), (6, .long (f x)), (8, .int (nI (jArg f x))), (9, .int (nI (x))), (10, .long (f x))]) dX11_choose_435 (by decide) rfl ?_
          refine aX_iload dX11_choose_437 rfl ?_
          refine aX_istore (lv' := [(0, .ref 159), (1, .int (bI (true))), (2, .int (bI (false))), (3, .long (cst)), (5, .int (nI (0))), (6, .long (f x)), (8, .int (nI (x))), (9, .int (nI (x))), (10, .long (f x))]) dX11_choose_439 (by decide) rfl ?_
          refine nInc (lv' := [(0, .ref 159), (1, .int (bI (true))), (2, .int (bI (false))), (3, .long (cst)), (5, .int (nI (0))), (6, .long (f x)), (8, .int (nI (x))), (9, .int (nI (x + 1))), (10, .long (f x))]) dX11_choose_441 rfl rfl (by decide) rfl ?_
          refine aX_goto (tgt := 356) dX11_choose_444 (by decide) ?_
          refine aX_lv (lv' := [(0, .ref 159), (1, .int (bI (true))), (2, .int (bI (false))), (3, .long (cst)), (5, .int (nI (0))), (6, .long (f x)), (8, .int (nI (x))), (9, .int (nI (x + 1)))]) [0, 1, 2, 3, 4, 5, 6, 7] rfl ?_
          obtain rfl : x = 0 := by omega
          refine aX_lv (lv' := [(0, .ref 159), (1, .int (bI true)), (2, .int (bI false)), (3, .long cst), (5, .int (nI (0))), (6, .long (bsA f (0 + 1))), (8, .int (nI (jArg f (0 + 1)))), (9, .int (nI (0 + 1)))]) [0, 1, 2, 3, 4, 5, 6, 7] (by rw [show bsA f (0 + 1) = f 0 from (bsA_0 f).symm, show jArg f (0 + 1) = 0 from jArg_1 f]; rfl) ?_
          exact ih (jCo s r q.1 - (0 + 1)) (by omega) (0 + 1) (by omega) rfl
        · refine aX_lload dX11_choose_425 rfl ?_
          refine aX_lload dX11_choose_427 rfl ?_
          refine aX_lcmp dX11_choose_429 ?_
          refine lIf_ge (tgt := 441) dX11_choose_430 (by decide) (fun c4 => ?_) (fun c4 => ?_)
          · refine nInc (lv' := [(0, .ref 159), (1, .int (bI (true))), (2, .int (bI (false))), (3, .long (cst)), (5, .int (nI (0))), (6, .long (bsA f x)), (8, .int (nI (jArg f x))), (9, .int (nI (x + 1))), (10, .long (f x))]) dX11_choose_441 rfl rfl (by decide) rfl ?_
            refine aX_goto (tgt := 356) dX11_choose_444 (by decide) ?_
            refine aX_lv (lv' := [(0, .ref 159), (1, .int (bI (true))), (2, .int (bI (false))), (3, .long (cst)), (5, .int (nI (0))), (6, .long (bsA f x)), (8, .int (nI (jArg f x))), (9, .int (nI (x + 1)))]) [0, 1, 2, 3, 4, 5, 6, 7] rfl ?_
            have y := bsA_ge (f := f) (o := x) (by omega) c4
            refine aX_lv (lv' := [(0, .ref 159), (1, .int (bI true)), (2, .int (bI false)), (3, .long cst), (5, .int (nI (0))), (6, .long (bsA f (x + 1))), (8, .int (nI (jArg f (x + 1)))), (9, .int (nI (x + 1)))]) [0, 1, 2, 3, 4, 5, 6, 7] (by rw [← y.1, ← y.2]; rfl) ?_
            exact ih (jCo s r q.1 - (x + 1)) (by omega) (x + 1) (by omega) rfl
          · refine aX_lload dX11_choose_433 rfl ?_
            refine aX_lstore (lv' := [(0, .ref 159), (1, .int (bI (true))), (2, .int (bI (false))), (3, .long (cst)), (5, .int (nI (0))), (6, .long (f x)), (8, .int (nI (jArg f x))), (9, .int (nI (x))), (10, .long (f x))]) dX11_choose_435 (by decide) rfl ?_
            refine aX_iload dX11_choose_437 rfl ?_
            refine aX_istore (lv' := [(0, .ref 159), (1, .int (bI (true))), (2, .int (bI (false))), (3, .long (cst)), (5, .int (nI (0))), (6, .long (f x)), (8, .int (nI (x))), (9, .int (nI (x))), (10, .long (f x))]) dX11_choose_439 (by decide) rfl ?_
            refine nInc (lv' := [(0, .ref 159), (1, .int (bI (true))), (2, .int (bI (false))), (3, .long (cst)), (5, .int (nI (0))), (6, .long (f x)), (8, .int (nI (x))), (9, .int (nI (x + 1))), (10, .long (f x))]) dX11_choose_441 rfl rfl (by decide) rfl ?_
            refine aX_goto (tgt := 356) dX11_choose_444 (by decide) ?_
            refine aX_lv (lv' := [(0, .ref 159), (1, .int (bI (true))), (2, .int (bI (false))), (3, .long (cst)), (5, .int (nI (0))), (6, .long (f x)), (8, .int (nI (x))), (9, .int (nI (x + 1)))]) [0, 1, 2, 3, 4, 5, 6, 7] rfl ?_
            have y := bsA_lt (f := f) (o := x) (by omega) c4
            refine aX_lv (lv' := [(0, .ref 159), (1, .int (bI true)), (2, .int (bI false)), (3, .long cst), (5, .int (nI (0))), (6, .long (bsA f (x + 1))), (8, .int (nI (jArg f (x + 1)))), (9, .int (nI (x + 1)))]) [0, 1, 2, 3, 4, 5, 6, 7] (by rw [← y.1, ← y.2]; rfl) ?_
            exact ih (jCo s r q.1 - (x + 1)) (by omega) (x + 1) (by omega) rfl
set_option maxHeartbeats 1000000 in
theorem mc_p4b {I : Nat → Nat → Int32} {L : Nat → Nat → Int64} {R : Nat → Nat → Option Nat} (hR : aRf R) {s : jN} (hs : mnRep I s) (ho : jOk s) (h6 : jSix s) (hS : msRep I s (jS s)) {r : jR} (hl : mlRep I r) (hcn : mcRep I s r) (hg : rGood r) {w : jW} (hw : mwRep I w) (hcz : ∀ (k : Nat) (q : Nat × Nat), (jS s)[k]? = some q → 0 < jCo s r q.1 ∧ jCo s r q.1 ≤ 64) (htg : tgAll I s r (jS s).length) {k : Nat} {q : Nat × Nat} {f : Nat → Int64} (hk : k + 1 < (jS s).length) (hq : (jS s)[k + 1]? = some q) (hf : f = jGo s r w k (jChs s r w k)) {q0 : Nat × Nat} (hq0 : (jS s)[k]? = some q0) (hch : jChs s r w k < jCo s r q0.1) (h179 : I 179 k = nI (jChs s r w k)) (hls : lsAll L s r w 0) {Q : Option Value → aH → Prop} {cst : Int64} (kk : aX mX11_choose aE0 (sh0, I, L, R) 447 [(0, .ref 159), (1, .int (bI true)), (2, .int (bI false)), (3, .long cst), (5, .int (nI (k + 1))), (6, .long (bsA f (jCo s r q.1))), (8, .int (nI (jArg f (jCo s r q.1)))), (9, .int (nI (jCo s r q.1)))] [] 0 0 Q) : ∀ (k9 x : Nat), x ≤ jCo s r q.1 → (jCo s r q.1) - x = k9 → aX mX11_choose aE0 (sh0, I, L, R) 356 [(0, .ref 159), (1, .int (bI (true))), (2, .int (bI (false))), (3, .long (cst)), (5, .int (nI (k + 1))), (6, .long (bsA f x)), (8, .int (nI (jArg f x))), (9, .int (nI (x)))] [] 0 0 Q := by
  intro k9
  induction k9 using Nat.strongRecOn with
  | _ k9 ih =>
    intro x hi hk9  
    have hn := ho.1
    have hSl := jS_len s
    have hpp : ∀ k, k < (jS s).length → 0 < jCn s r k := fun k hk => by
      obtain ⟨q, hq⟩ : ∃ q, (jS s)[k]? = some q := ⟨_, List.getElem?_eq_getElem hk⟩
      rw [jCn_q hq (hcz k q hq).2]; exact (hcz k q hq).1
    have hw0 := hw.1.1
    have hw1 := hw.1.2 1 (by decide) (by decide)
    have hc0 := (hcz (k + 1) q hq).2
    have hc1 := (hcz k q0 hq0).2
    have hax : jArg f x ≤ x := jArg_le f x
    refine aX_iload dX11_choose_356 rfl ?_
    refine aX_aload_n dX11_choose_358 rfl ?_
    refine aX_get dX11_choose_359 lfX11_66 s159 (f159_20 hR) ?_
    refine aX_iload dX11_choose_362 rfl ?_
    refine nIald (v := nI (jCo s r q.1)) dX11_choose_364 s176 (by first | omega | exact Nat.lt_of_le_of_lt (Nat.mod_le _ _) (by omega)) (by decide) (hcn.2.2 (k + 1) q hq) ?_
    refine nGe (tgt := 447) dX11_choose_365 (by decide) (by first | omega | exact Nat.lt_of_le_of_lt (Nat.mod_le _ _) (by omega)) (by first | omega | exact Nat.lt_of_le_of_lt (Nat.mod_le _ _) (by omega)) (fun c1 => ?_) (fun c1 => ?_)
    · obtain rfl : x = jCo s r q.1 := by omega
      exact kk
    · refine aX_aload_n dX11_choose_368 rfl ?_
      refine aX_get dX11_choose_369 lfX11_78 s159 (f159_25 hR) ?_
      refine aX_bipush (v := nI 64) dX11_choose_372 (by decide) ?_
      refine aX_iload dX11_choose_374 rfl ?_
      refine nMul dX11_choose_376 ?_
      refine aX_iload dX11_choose_377 rfl ?_
      refine nAdd dX11_choose_379 ?_
      refine nLald (v := jCost s r w ((jS s).length - 1 - (k + 1)) x) dX11_choose_380 s180 (by first | omega | exact Nat.lt_of_le_of_lt (Nat.mod_le _ _) (by omega)) (by decide) (hls (k + 1) q x (Nat.zero_le _) hq (by omega)) ?_
      refine aX_iload dX11_choose_381 rfl ?_
      refine nIf_ne (tgt := 390) dX11_choose_383 (by decide) (by first | omega | exact Nat.lt_of_le_of_lt (Nat.mod_le _ _) (by omega)) (fun c2 => ?_) (fun c2 => ?_)
      · refine aX_aload_n dX11_choose_390 rfl ?_
        refine aX_get dX11_choose_391 lfX11_48 s159 (f159_11 hR) ?_
        refine aX_iconst (v := nI 1) dX11_choose_394 (by decide) ?_
        refine nIald (v := nI (w 1)) dX11_choose_395 s170 (by first | omega | exact Nat.lt_of_le_of_lt (Nat.mod_le _ _) (by omega)) (by decide) (hw.2 1 (by decide)) ?_
        refine aX_i2l dX11_choose_396 ?_
        refine aX_aload_n dX11_choose_397 rfl ?_
        refine aX_iload dX11_choose_398 rfl ?_
        refine aX_iconst (v := nI 1) dX11_choose_400 (by decide) ?_
        refine nSub dX11_choose_401 (by first | omega | exact Nat.lt_of_le_of_lt (Nat.mod_le _ _) (by omega)) ?_
        refine aX_aload_n dX11_choose_402 rfl ?_
        refine aX_get dX11_choose_403 lfX11_75 s159 (f159_24 hR) ?_
        refine aX_iload dX11_choose_406 rfl ?_
        refine aX_iconst (v := nI 1) dX11_choose_408 (by decide) ?_
        refine nSub dX11_choose_409 (by first | omega | exact Nat.lt_of_le_of_lt (Nat.mod_le _ _) (by omega)) ?_
        refine nIald (v := nI (jChs s r w k)) dX11_choose_410 s179 (by first | omega | exact Nat.lt_of_le_of_lt (Nat.mod_le _ _) (by omega)) (by decide) (h179) ?_
        refine aX_iload dX11_choose_411 rfl ?_
        refine cVp (As := [.int (nI ((k + 1) - 1)), .int (nI (jChs s r w k)), .int (nI (x))]) (st := [.long ((nI (w 1)).toInt64), .long (jCost s r w ((jS s).length - 1 - (k + 1)) x)]) (v := .long (jStrain s r k (jChs s r w k) x)) dX11_choose_413 kX11_choose_205 s159 aEok0 rfl rfl (Nat.le_of_ble_eq_true rfl) (m_strain hR hs ho h6 hS hl.1 hg hk (by omega) (by omega) (tgRep_of hq0 (fun m hm h2 => htg k q0 _ m (by omega) hq0 hch hm h2)) (tgRep_of hq (fun m hm h2 => htg (k + 1) q x m (by omega) hq (by omega) hm h2))) ?_
        refine aX_lmul dX11_choose_416 ?_
        refine aX_ladd dX11_choose_417 ?_
        rw [show (jCost s r w ((jS s).length - 1 - (k + 1)) x) + (((nI (w 1)).toInt64) * (jStrain s r k (jChs s r w k) x)) = f x by rw [hf]; rfl]
        refine aX_lstore (lv' := [(0, .ref 159), (1, .int (bI (true))), (2, .int (bI (false))), (3, .long (cst)), (5, .int (nI (k + 1))), (6, .long (bsA f x)), (8, .int (nI (jArg f x))), (9, .int (nI (x))), (10, .long (f x))]) dX11_choose_418 (by decide) rfl ?_
        refine aX_iload dX11_choose_420 rfl ?_
        refine nIf_eq (tgt := 433) dX11_choose_422 (by decide) (by first | omega | exact Nat.lt_of_le_of_lt (Nat.mod_le _ _) (by omega)) (fun c3 => ?_) (fun c3 => ?_)
        · refine aX_lload dX11_choose_433 rfl ?_
          refine aX_lstore (lv' := [(0, .ref 159), (1, .int (bI (true))), (2, .int (bI (false))), (3, .long (cst)), (5, .int (nI (k + 1))), (6, .long (f x)), (8, .int (nI (jArg f x))), (9, .int (nI (x))), (10, .long (f x))]) dX11_choose_435 (by decide) rfl ?_
          refine aX_iload dX11_choose_437 rfl ?_
          refine aX_istore (lv' := [(0, .ref 159), (1, .int (bI (true))), (2, .int (bI (false))), (3, .long (cst)), (5, .int (nI (k + 1))), (6, .long (f x)), (8, .int (nI (x))), (9, .int (nI (x))), (10, .long (f x))]) dX11_choose_439 (by decide) rfl ?_
          refine nInc (lv' := [(0, .ref 159), (1, .int (bI (true))), (2, .int (bI (false))), (3, .long (cst)), (5, .int (nI (k + 1))), (6, .long (f x)), (8, .int (nI (x))), (9, .int (nI (x + 1))), (10, .long (f x))]) dX11_choose_441 rfl rfl (by decide) rfl ?_
          refine aX_goto (tgt := 356) dX11_choose_444 (by decide) ?_
          refine aX_lv (lv' := [(0, .ref 159), (1, .int (bI (true))), (2, .int (bI (false))), (3, .long (cst)), (5, .int (nI (k + 1))), (6, .long (f x)), (8, .int (nI (x))), (9, .int (nI (x + 1)))]) [0, 1, 2, 3, 4, 5, 6, 7] rfl ?_
          obtain rfl : x = 0 := by omega
          refine aX_lv (lv' := [(0, .ref 159), (1, .int (bI true)), (2, .int (bI false)), (3, .long cst), (5, .int (nI (k + 1))), (6, .long (bsA f (0 + 1))), (8, .int (nI (jArg f (0 + 1)))), (9, .int (nI (0 + 1)))]) [0, 1, 2, 3, 4, 5, 6, 7] (by rw [show bsA f (0 + 1) = f 0 from (bsA_0 f).symm, show jArg f (0 + 1) = 0 from jArg_1 f]; rfl) ?_
          exact ih (jCo s r q.1 - (0 + 1)) (by omega) (0 + 1) (by omega) rfl
        · refine aX_lload dX11_choose_425 rfl ?_
          refine aX_lload dX11_choose_427 rfl ?_
          refine aX_lcmp dX11_choose_429 ?_
          refine lIf_ge (tgt := 441) dX11_choose_430 (by decide) (fun c4 => ?_) (fun c4 => ?_)
          · refine nInc (lv' := [(0, .ref 159), (1, .int (bI (true))), (2, .int (bI (false))), (3, .long (cst)), (5, .int (nI (k + 1))), (6, .long (bsA f x)), (8, .int (nI (jArg f x))), (9, .int (nI (x + 1))), (10, .long (f x))]) dX11_choose_441 rfl rfl (by decide) rfl ?_
            refine aX_goto (tgt := 356) dX11_choose_444 (by decide) ?_
            refine aX_lv (lv' := [(0, .ref 159), (1, .int (bI (true))), (2, .int (bI (false))), (3, .long (cst)), (5, .int (nI (k + 1))), (6, .long (bsA f x)), (8, .int (nI (jArg f x))), (9, .int (nI (x + 1)))]) [0, 1, 2, 3, 4, 5, 6, 7] rfl ?_
            have y := bsA_ge (f := f) (o := x) (by omega) c4
            refine aX_lv (lv' := [(0, .ref 159), (1, .int (bI true)), (2, .int (bI false)), (3, .long cst), (5, .int (nI (k + 1))), (6, .long (bsA f (x + 1))), (8, .int (nI (jArg f (x + 1)))), (9, .int (nI (x + 1)))]) [0, 1, 2, 3, 4, 5, 6, 7] (by rw [← y.1, ← y.2]; rfl) ?_
            exact ih (jCo s r q.1 - (x + 1)) (by omega) (x + 1) (by omega) rfl
          · refine aX_lload dX11_choose_433 rfl ?_
            refine aX_lstore (lv' := [(0, .ref 159), (1, .int (bI (true))), (2, .int (bI (false))), (3, .long (cst)), (5, .int (nI (k + 1))), (6, .long (f x)), (8, .int (nI (jArg f x))), (9, .int (nI (x))), (10, .long (f x))]) dX11_choose_435 (by decide) rfl ?_
            refine aX_iload dX11_choose_437 rfl ?_
            refine aX_istore (lv' := [(0, .ref 159), (1, .int (bI (true))), (2, .int (bI (false))), (3, .long (cst)), (5, .int (nI (k + 1))), (6, .long (f x)), (8, .int (nI (x))), (9, .int (nI (x))), (10, .long (f x))]) dX11_choose_439 (by decide) rfl ?_
            refine nInc (lv' := [(0, .ref 159), (1, .int (bI (true))), (2, .int (bI (false))), (3, .long (cst)), (5, .int (nI (k + 1))), (6, .long (f x)), (8, .int (nI (x))), (9, .int (nI (x + 1))), (10, .long (f x))]) dX11_choose_441 rfl rfl (by decide) rfl ?_
            refine aX_goto (tgt := 356) dX11_choose_444 (by decide) ?_
            refine aX_lv (lv' := [(0, .ref 159), (1, .int (bI (true))), (2, .int (bI (false))), (3, .long (cst)), (5, .int (nI (k + 1))), (6, .long (f x)), (8, .int (nI (x))), (9, .int (nI (x + 1)))]) [0, 1, 2, 3, 4, 5, 6, 7] rfl ?_
            have y := bsA_lt (f := f) (o := x) (by omega) c4
            refine aX_lv (lv' := [(0, .ref 159), (1, .int (bI true)), (2, .int (bI false)), (3, .long cst), (5, .int (nI (k + 1))), (6, .long (bsA f (x + 1))), (8, .int (nI (jArg f (x + 1)))), (9, .int (nI (x + 1)))]) [0, 1, 2, 3, 4, 5, 6, 7] (by rw [← y.1, ← y.2]; rfl) ?_
            exact ih (jCo s r q.1 - (x + 1)) (by omega) (x + 1) (by omega) rfl
      · exact absurd c2 (by omega)
