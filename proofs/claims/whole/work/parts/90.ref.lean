/-! THE REFERENCE BUILDS ITS EQUATIONS -/
noncomputable def eqN (s : jN) (x : Nat) : Nat := 10000 * s.2.1 (nOf s x)
theorem eqOf_N (s : jN) (x : Nat) : eqOf s x = ((eqN s x : Nat) : Int) := rfl
theorem eqN_V {s : jN} {k m : Nat} (hk : k < (jS s).length) (hm : m ∈ jMem s (jB s k)) : eqN s (jV s k m) = 10000 * s.2.1 m := by
  have h := eqOf_V hk hm
  rw [eqOf_N] at h
  omega
def bdS (I : Nat → Nat → Int32) (L : Nat → Nat → Int64) (n : Nat) (T : List Tm) (E : List Nat) (e : Int) (q : Nat → Int) : Prop := ∃ S f, rsRep L n S ∧ sEr S T E e q ∧ hgRep I n f ∧ hOk T f
def bdK (I I' : Nat → Nat → Int32) : Prop := ∀ q j, (q < 184 ∨ 186 < q) → I' q j = I q j
theorem rqK_trans {L L1 L2 : Nat → Nat → Int64} (h : rqK L L1) (k : rqK L1 L2) : rqK L L2 := fun q j g => (k q j g).trans (h q j g)
theorem m_addT {I : Nat → Nat → Int32} {L : Nat → Nat → Int64} {R : Nat → Nat → Option Nat} (hR : aRf R) {n : Nat} (hn : I 159 21 = nI n) (hn20 : n ≤ 20) {T : List Tm} {E : List Nat} {e : Int} {q : Nat → Int} (hb : bdS I L n T E e q) {x y : Nat} (hx : x < n) (hy : y < n) {t u : Int} {w : Nat} (hw : w ≤ 99) (hu : u = t + (q x - q y)) {v : Int64} (hv : v = lZ u) : aM mX11_addTerm [.ref 159, .int (nI x), .int (nI y), .long v, .long (lN w)] (sh0, I, L, R) (fun ans h' => ans = none ∧ ∃ I' L', h' = (sh0, I', L', R) ∧ bdS I' L' n (T ++ [(x, y, (w : Int), t)]) E e q ∧ (∀ q j, q ≠ 185 → I' q j = I q j) ∧ rqK L L') := by
  obtain ⟨S, f, b1, b2, b3, b4⟩ := hb
  rw [hv, kZ]
  refine aM_mono (m_addTerm hR hn hn20 b1 b3 hx hy (t := u) (u := t) hw) (fun r h' hq => ?_)
  obtain ⟨g1, I', L', g2, g3, g4, g5, g6⟩ := hq
  exact ⟨g1, I', L', g2, ⟨jPair S x y (w : Int) u, hRel (x, y, (w : Int), t) f, g3, sEr_pair b2 x y _ t u hu, g4, hOk_step b4 _⟩, g5, g6⟩
theorem bdS_0 {I : Nat → Nat → Int32} {L : Nat → Nat → Int64} {n : Nat} {e : Int} {q : Nat → Int} (h1 : ∀ j, j < 400 → L 182 j = lN 0) (h2 : ∀ i, i < n → L 183 i = lN 0) (h3 : L 159 33 = lN 0) (hn : n ≤ 20) (h4 : ∀ i, i < n → I 185 i = nI i) : bdS I L n [] [] e q := by
  refine ⟨jQ0, fun k => k, ⟨fun i j hi hj => h1 _ (by omega), fun i hi => h2 i hi, h3⟩, ⟨fun i j => ?_, fun i => ?_, ?_⟩, fun i hi => ⟨h4 i hi, hi⟩, ⟨fun τ ht => ?_, fun i j g => ?_⟩⟩
  · simp [jQ0, tA, ls]
  · simp [jQ0, tB', ls]
  · simp [jQ0, tC', ls]
  · cases ht
  · have e' : i = j := g
    rw [e']; exact Cn_refl _ _
theorem bdS_I {I I' : Nat → Nat → Int32} {L : Nat → Nat → Int64} {n : Nat} {T : List Tm} {E : List Nat} {e : Int} {q : Nat → Int} (h : ∀ i, I' 185 i = I 185 i) (hb : bdS I L n T E e q) : bdS I' L n T E e q := by
  obtain ⟨S, f, b1, b2, b3, b4⟩ := hb
  exact ⟨S, f, b1, b2, fun i hi => ⟨(h i).trans (b3 i hi).1, (b3 i hi).2⟩, b4⟩
theorem lin3r (a b : Int) (ki kj kb : Nat) (h1 : kb ≤ ki) (h2 : kb ≤ kj) : (a + 10000 * ((ki - kb : Nat) : Int)) - (b + 10000 * ((kj - kb : Nat) : Int)) = (a - b) + (((10000 * ki : Nat) : Int) - ((10000 * kj : Nat) : Int)) := by omega
theorem lin4r {a b : Int} {ki kj : Nat} (ha : -230080 ≤ a ∧ a ≤ 240080) (hb : -230080 ≤ b ∧ b ≤ 240080) (h1 : ki ≤ 127) (h2 : kj ≤ 127) : -2147483648 ≤ (a - b) + (((10000 * ki : Nat) : Int) - ((10000 * kj : Nat) : Int)) ∧ (a - b) + (((10000 * ki : Nat) : Int) - ((10000 * kj : Nat) : Int)) < 2147483648 := by omega
theorem tg_diff {s : jN} (r : jR) {k rd i j : Nat} (hk : k < (jS s).length) (hi : i < s.1) (hoi : jOn s i (jB s k) = true) (hj : j < s.1) (hoj : jOn s j (jB s k) = true) : (jDz s r (jB s k) rd i + 10000 * ((jSt s (jB s k) i : Nat) : Int)) - (jDz s r (jB s k) rd j + 10000 * ((jSt s (jB s k) j : Nat) : Int)) = (jDz s r (jB s k) rd i - jDz s r (jB s k) rd j) + (((10000 * s.2.1 i : Nat) : Int) - ((10000 * s.2.1 j : Nat) : Int)) := by
  obtain ⟨q, hq, hqb⟩ := jQ hk
  have hsi := jS_in hq
  rw [hqb] at hsi
  have hb := jBase_in hsi.2.2
  have h1 := jMem_min hb.1 hi hoi
  have h2 := jMem_min hb.1 hj hoj
  exact lin3r _ _ _ _ _ h1 h2
set_option maxHeartbeats 1000000 in
theorem ml_bIn {I : Nat → Nat → Int32} {L : Nat → Nat → Int64} {R : Nat → Nat → Option Nat} (hR : aRf R) {s : jN} (hs : mnRep I s) (ho : jOk s) (hS : msRep I s (jS s)) {r : jR} (hl : mlRep I r) (hg : rGood r) {w : jW} (hw : mwRep I w) (hcn : mcRep I s r) (hcz : czOk s r) (hch : ∀ k, k < (jS s).length → I 179 k = nI (jChs s r w k)) (hn20 : jVn s ≤ 20) {k i e9 : Nat} {E9 : List Nat} (hk : k < (jS s).length) (hi : i < s.1) (hoi : jOn s i (jB s k) = true) {Q : Option Value → aH → Prop} (kk : ∀ I2 L2, (bdS I2 L2 (jVn s) (rT1 s r (jChs s r w) w k ++ rK1 s r (jChs s r w) w k i ++ (jML s (jB s k) i).map (tmCh s r (jChs s r w) w k i)) (E9) (w 4 : Int) (eqOf s)) → ((∀ a, a ∈ E9 → I2 184 a = nI (eqN s a))) → ((∀ a, a < jVn s → I2 186 a = bI false)) → (bdK I I2) → (rqK L L2) → aX mX11_build aE0 (sh0, I2, L2, R) 272 [(0, .ref 159), (1, .int (nI k)), (2, .int (nI i)), (3, .int (nI (jV s k i))), (4, .long (lN e9)), (6, .int (jTg s r (jB s k) (jChs s r w k) i)), (7, .int (nI i))] [] 0 0 Q) : ∀ (k9 j : Nat), j ≤ i → i - j = k9 → ∀ (I1 : Nat → Nat → Int32) (L1 : Nat → Nat → Int64), bdS I1 L1 (jVn s) (rT1 s r (jChs s r w) w k ++ rK1 s r (jChs s r w) w k i ++ (jML s (jB s k) j).map (tmCh s r (jChs s r w) w k i)) (E9) (w 4 : Int) (eqOf s) → (∀ a, a ∈ E9 → I1 184 a = nI (eqN s a)) → (∀ a, a < jVn s → I1 186 a = bI false) → bdK I I1 → rqK L L1 → aX mX11_build aE0 (sh0, I1, L1, R) 209 [(0, .ref 159), (1, .int (nI (k))), (2, .int (nI (i))), (3, .int (nI (jV s k i))), (4, .long (lN (e9))), (6, .int (jTg s r (jB s k) (jChs s r w k) i)), (7, .int (nI (j)))] [] 0 0 Q := by
  intro k9
  induction k9 using Nat.strongRecOn with
  | _ k9 ih =>
    intro j hij hk9 I1  L1  hb heq h186 hkI hkL
    have hn := ho.1
    have hSl := jS_len s
    have hs1 : mnRep I1 s := mnRep_of (fun q j g => hkI q j (by omega)) hs
    have hS1 : msRep I1 s (jS s) := msRep_of (fun q j g => hkI q j (by omega)) hS
    have hl1 : mlRep I1 r := mlRep_of (fun q j _ _ => hkI q j (by omega)) hl
    have hcn1 : mcRep I1 s r := mcRep_of (fun q j g => hkI q j (by omega)) hcn
    have hw4 : ∀ i, i < 5 → I1 170 i = nI (w i) := fun i hi => (hkI 170 i (by omega)).trans (hw.2 i hi)
    have hwb := hw.1
    have hwb2 := hw.1.2 2 (by decide) (by decide)
    have hwb3 := hw.1.2 3 (by decide) (by decide)
    have hwb4 := hw.1.2 4 (by decide) (by decide)
    obtain ⟨qk, hqk, hqb⟩ := jQ hk
    have hcl : jChs s r w k < 64 := by
      have y := jChs_lt2 w hcz k hk
      have z := (hcz.2 k hk).2
      rw [jCn_q hqk (by rw [hqb]; exact z), hqb] at y
      omega
    refine aX_iload dX11_build_209 rfl ?_
    refine aX_iload_n dX11_build_211 rfl ?_
    refine nGe (tgt := 272) dX11_build_212 (by decide) (by first | omega | exact Nat.lt_of_le_of_lt (Nat.mod_le _ _) (by omega)) (by first | omega | exact Nat.lt_of_le_of_lt (Nat.mod_le _ _) (by omega)) (fun c1 => ?_) (fun c1 => ?_)
    · obtain rfl : j = i := by omega
      exact kk I1 L1 hb heq h186 hkI hkL
    · have hji : j < i := c1
      have hjs : j < s.1 := by omega
      refine aX_aload_n dX11_build_215 rfl ?_
      refine aX_iload_n dX11_build_216 rfl ?_
      refine aX_iload dX11_build_217 rfl ?_
      refine cVp (As := [.int (nI (k)), .int (nI (j))]) (st := []) (v := .int (bI (jOn s j (jB s (k))))) dX11_build_219 kX11_build_163 s159 aEok0 rfl rfl (Nat.le_of_ble_eq_true rfl) (by rw [← hqb]; exact m_sounds0 hR hs1 ho hS1 hSl hqk (by omega)) ?_
      refine bEq (tgt := 266) dX11_build_222 (by decide) (fun c2 => ?_) (fun c2 => ?_)
      · have hof : jOn s j (jB s k) = false := c2
        refine nInc (lv' := [(0, .ref 159), (1, .int (nI (k))), (2, .int (nI (i))), (3, .int (nI (jV s k i))), (4, .long (lN (e9))), (6, .int (jTg s r (jB s k) (jChs s r w k) i)), (7, .int (nI (j + 1)))]) dX11_build_266 rfl rfl (by decide) rfl ?_
        refine aX_goto (tgt := 209) dX11_build_269 (by decide) ?_
        exact ih (i - (j + 1)) (by omega) (j + 1) (by omega) rfl I1 L1 (by rw [show jML s (jB s k) (j + 1) = jML s (jB s k) j by show (if _ then _ else _) = _; rw [if_neg (by rw [hof]; simp)]]; exact hb) heq h186 hkI hkL
      · have hoj : jOn s j (jB s k) = true := c2
        have hkj := (ho.2 j hjs).1
        have hki := (ho.2 i hi).1
        have hyl := jV_lt hk hjs hoj
        have b1 := jDz_in (s := s) hl.1 hg (jB s k) (jChs s r w k) i
        have b2 := jDz_in (s := s) hl.1 hg (jB s k) (jChs s r w k) j
        have b3 := tg_diff r (rd := jChs s r w k) hk hi hoi hjs hoj
        refine aX_aload_n dX11_build_225 rfl ?_
        refine aX_iload_n dX11_build_226 rfl ?_
        refine aX_aload_n dX11_build_227 rfl ?_
        refine aX_get dX11_build_228 lfX11_69 s159 (f159_22 hR) ?_
        refine aX_bipush (v := nI 16) dX11_build_231 (by decide) ?_
        refine aX_iload_n dX11_build_233 rfl ?_
        refine nMul dX11_build_234 ?_
        refine aX_iload dX11_build_235 rfl ?_
        refine nAdd dX11_build_237 ?_
        refine nIald (v := nI (jV s k j)) dX11_build_238 s177 (by first | omega | exact Nat.lt_of_le_of_lt (Nat.mod_le _ _) (by omega)) (by decide) (hcn1.2.1 k qk j hqk (jML_mem.mpr ⟨hjs, by rw [hqb]; exact hoj⟩)) ?_
        refine aX_iload dX11_build_239 rfl ?_
        refine aX_aload_n dX11_build_241 rfl ?_
        refine aX_iload_n dX11_build_242 rfl ?_
        refine aX_aload_n dX11_build_243 rfl ?_
        refine aX_get dX11_build_244 lfX11_75 s159 (f159_24 hR) ?_
        refine aX_iload_n dX11_build_247 rfl ?_
        refine nIald (v := nI (jChs s r w k)) dX11_build_248 s179 (by first | omega | exact Nat.lt_of_le_of_lt (Nat.mod_le _ _) (by omega)) (by decide) ((hkI 179 k (by omega)).trans (hch k hk)) ?_
        refine aX_iload dX11_build_249 rfl ?_
        refine cVp (As := [.int (nI (k)), .int (nI (jChs s r w k)), .int (nI (j))]) (st := [.int (jTg s r (jB s k) (jChs s r w k) i), .int (nI (jV s k j)), .int (nI (jV s k i)), .ref 159]) (v := .int (jTg s r (jB s k) (jChs s r w k) j)) dX11_build_251 kX11_build_195 s159 aEok0 rfl rfl (Nat.le_of_ble_eq_true rfl) (by rw [← hqb]; exact m_targetOf hR hs1 ho hS1 hl1 hqk (by rw [hqb]; exact jCo_pos (hcz.2 k hk).1) (by have := hcl; omega) hjs (by rw [hqb]; exact hoj)) ?_
        rw [jTg_eq, jTg_eq]
        refine zSub (a := jDz s r (jB s k) (jChs s r w k) i + 10000 * ((jSt s (jB s k) i : Nat) : Int)) (b := jDz s r (jB s k) (jChs s r w k) j + 10000 * ((jSt s (jB s k) j : Nat) : Int)) dX11_build_254 rfl rfl ?_
        refine yI2l dX11_build_255 (by rw [b3]; exact (lin4r b1 b2 hki hkj).1) (by rw [b3]; exact (lin4r b1 b2 hki hkj).2) ?_
        refine aX_aload_n dX11_build_256 rfl ?_
        refine aX_get dX11_build_257 lfX11_48 s159 (f159_11 hR) ?_
        refine aX_iconst (v := nI 2) dX11_build_260 (by decide) ?_
        refine nIald (v := nI (w 2)) dX11_build_261 s170 (by first | omega | exact Nat.lt_of_le_of_lt (Nat.mod_le _ _) (by omega)) (by decide) (hw4 2 (by decide)) ?_
        refine kI2l dX11_build_262 (by first | omega | exact Nat.lt_of_le_of_lt (Nat.mod_le _ _) (by omega)) ?_
        refine cV (As := [.int (nI (jV s k i)), .int (nI (jV s k j)), .long (lZ (jDz s r (jB s k) (jChs s r w k) i + 10000 * ((jSt s (jB s k) i : Nat) : Int) - (jDz s r (jB s k) (jChs s r w k) j + 10000 * ((jSt s (jB s k) j : Nat) : Int)))), .long (lN (w 2))]) (st := []) dX11_build_263 kX11_build_213 s159 aEok0 rfl rfl (Nat.le_of_ble_eq_true rfl) (m_addT hR hcn1.1 hn20 hb (jV_lt hk hi hoi) hyl (t := jTd s r (jChs s r w) k i j) (u := jDz s r (jB s k) (jChs s r w k) i + 10000 * ((jSt s (jB s k) i : Nat) : Int) - (jDz s r (jB s k) (jChs s r w k) j + 10000 * ((jSt s (jB s k) j : Nat) : Int))) (w := w 2) (hwb.2 2 (by decide) (by decide)) (by rw [b3, jTd_eq hl.1 hg, eqOf_V hk (jML_mem.mpr ⟨hi, hoi⟩), eqOf_V hk (jML_mem.mpr ⟨hjs, hoj⟩)]) rfl) (fun ans' h' hq9 => ?_)
        obtain ⟨rfl, I2, L2, rfl, g1, g2, g3⟩ := hq9
        refine ⟨rfl, ?_⟩
        rw [← jTg_eq]
        refine nInc (lv' := [(0, .ref 159), (1, .int (nI (k))), (2, .int (nI (i))), (3, .int (nI (jV s k i))), (4, .long (lN (e9))), (6, .int (jTg s r (jB s k) (jChs s r w k) i)), (7, .int (nI (j + 1)))]) dX11_build_266 rfl rfl (by decide) rfl ?_
        refine aX_goto (tgt := 209) dX11_build_269 (by decide) ?_
        exact ih (i - (j + 1)) (by omega) (j + 1) (by omega) rfl I2 L2 (by rw [show jML s (jB s k) (j + 1) = jML s (jB s k) j ++ [j] by show (if _ then _ else _) = _; rw [if_pos hoj], List.map_append, ← List.append_assoc]; exact g1) (fun a ha => (g2 184 a (by omega)).trans (heq a ha)) (fun a ha => (g2 186 a (by omega)).trans (h186 a ha)) (fun q j g => (g2 q j (by omega)).trans (hkI q j g)) (rqK_trans hkL g3)
set_option maxHeartbeats 1000000 in
theorem ml_bNt {I : Nat → Nat → Int32} {L : Nat → Nat → Int64} {R : Nat → Nat → Option Nat} (hR : aRf R) {s : jN} (hs : mnRep I s) (ho : jOk s) (hS : msRep I s (jS s)) {r : jR} (hl : mlRep I r) (hg : rGood r) {w : jW} (hw : mwRep I w) (hcn : mcRep I s r) (hcz : czOk s r) (hch : ∀ k, k < (jS s).length → I 179 k = nI (jChs s r w k)) (hn20 : jVn s ≤ 20) {k : Nat} (hk : k < (jS s).length) {Q : Option Value → aH → Prop} (kk : ∀ I2 L2, (bdS I2 L2 (jVn s) (rT1 s r (jChs s r w) w (k + 1)) (jEs s (k + 1)) (w 4 : Int) (eqOf s)) → ((∀ a, a ∈ jEs s (k + 1) → I2 184 a = nI (eqN s a))) → ((∀ a, a < jVn s → I2 186 a = bI false)) → (bdK I I2) → (rqK L L2) → aX mX11_build aE0 (sh0, I2, L2, R) 328 [(0, .ref 159), (1, .int (nI k)), (2, .int (nI s.1))] [] 0 0 Q) : ∀ (k9 i : Nat), i ≤ s.1 → s.1 - i = k9 → ∀ (I1 : Nat → Nat → Int32) (L1 : Nat → Nat → Int64), bdS I1 L1 (jVn s) (rT1 s r (jChs s r w) w k ++ rK1 s r (jChs s r w) w k i) (jEs s k ++ (jML s (jB s k) i).map (jV s k)) (w 4 : Int) (eqOf s) → (∀ a, a ∈ jEs s k ++ (jML s (jB s k) i).map (jV s k) → I1 184 a = nI (eqN s a)) → (∀ a, a < jVn s → I1 186 a = bI false) → bdK I I1 → rqK L L1 → aX mX11_build aE0 (sh0, I1, L1, R) 76 [(0, .ref 159), (1, .int (nI (k))), (2, .int (nI (i)))] [] 0 0 Q := by
  intro k9
  induction k9 using Nat.strongRecOn with
  | _ k9 ih =>
    intro i hi hk9 I1  L1  hb heq h186 hkI hkL
    have hn := ho.1
    have hSl := jS_len s
    have hs1 : mnRep I1 s := mnRep_of (fun q j g => hkI q j (by omega)) hs
    have hS1 : msRep I1 s (jS s) := msRep_of (fun q j g => hkI q j (by omega)) hS
    have hl1 : mlRep I1 r := mlRep_of (fun q j _ _ => hkI q j (by omega)) hl
    have hcn1 : mcRep I1 s r := mcRep_of (fun q j g => hkI q j (by omega)) hcn
    have hw4 : ∀ i, i < 5 → I1 170 i = nI (w i) := fun i hi => (hkI 170 i (by omega)).trans (hw.2 i hi)
    have hwb := hw.1
    have hwb2 := hw.1.2 2 (by decide) (by decide)
    have hwb3 := hw.1.2 3 (by decide) (by decide)
    have hwb4 := hw.1.2 4 (by decide) (by decide)
    obtain ⟨qk, hqk, hqb⟩ := jQ hk
    have hcl : jChs s r w k < 64 := by
      have y := jChs_lt2 w hcz k hk
      have z := (hcz.2 k hk).2
      rw [jCn_q hqk (by rw [hqb]; exact z), hqb] at y
      omega
    refine aX_iload_n dX11_build_76 rfl ?_
    refine aX_aload_n dX11_build_77 rfl ?_
    refine aX_get (v := .int (nI (s.1))) dX11_build_78 lfX11_150 s159 (congrArg Value.int (hs1.1)) ?_
    refine nGe (tgt := 328) dX11_build_81 (by decide) (by first | omega | exact Nat.lt_of_le_of_lt (Nat.mod_le _ _) (by omega)) (by first | omega | exact Nat.lt_of_le_of_lt (Nat.mod_le _ _) (by omega)) (fun c1 => ?_) (fun c1 => ?_)
    · obtain rfl : i = s.1 := by omega
      exact kk I1 L1 hb heq h186 hkI hkL
    · have hil : i < s.1 := c1
      refine aX_aload_n dX11_build_84 rfl ?_
      refine aX_iload_n dX11_build_85 rfl ?_
      refine aX_iload_n dX11_build_86 rfl ?_
      refine cVp (As := [.int (nI (k)), .int (nI (i))]) (st := []) (v := .int (bI (jOn s i (jB s (k))))) dX11_build_87 kX11_build_163 s159 aEok0 rfl rfl (Nat.le_of_ble_eq_true rfl) (by rw [← hqb]; exact m_sounds0 hR hs1 ho hS1 hSl hqk (by omega)) ?_
      refine bEq (tgt := 322) dX11_build_90 (by decide) (fun c2 => ?_) (fun c2 => ?_)
      · have hoi : jOn s i (jB s k) = false := c2
        refine nInc (lv' := [(0, .ref 159), (1, .int (nI (k))), (2, .int (nI (i + 1)))]) dX11_build_322 rfl rfl (by decide) rfl ?_
        refine aX_goto (tgt := 76) dX11_build_325 (by decide) ?_
        have hTi : rK1 s r (jChs s r w) w k (i + 1) = rK1 s r (jChs s r w) w k i := by show (if _ then _ else _) = _; rw [if_neg (by rw [hoi]; simp)]
        have hEi : jML s (jB s k) (i + 1) = jML s (jB s k) i := by show (if _ then _ else _) = _; rw [if_neg (by rw [hoi]; simp)]
        exact ih (s.1 - (i + 1)) (by omega) (i + 1) (by omega) rfl I1 L1 (by rw [hTi, hEi]; exact hb) (by rw [hEi]; exact heq) h186 hkI hkL
      · have hoi : jOn s i (jB s k) = true := c2
        have hxl := jV_lt hk hil hoi
        have hki := (ho.2 i hil).1
        have hmm : i ∈ jMem s (jB s k) := jML_mem.mpr ⟨hil, hoi⟩
        have hqx := eqOf_V hk hmm
        have hex := eqN_V hk hmm
        obtain ⟨S0, f0, b1, b2, b3, b4⟩ := hb
        refine aX_aload_n dX11_build_93 rfl ?_
        refine aX_get dX11_build_94 lfX11_69 s159 (f159_22 hR) ?_
        refine aX_bipush (v := nI 16) dX11_build_97 (by decide) ?_
        refine aX_iload_n dX11_build_99 rfl ?_
        refine nMul dX11_build_100 ?_
        refine aX_iload_n dX11_build_101 rfl ?_
        refine nAdd dX11_build_102 ?_
        refine nIald (v := nI (jV s k i)) dX11_build_103 s177 (by first | omega | exact Nat.lt_of_le_of_lt (Nat.mod_le _ _) (by omega)) (by decide) (hcn1.2.1 k qk i hqk (jML_mem.mpr ⟨hil, by rw [hqb]; exact hoi⟩)) ?_
        refine aX_istore_n (lv' := [(0, .ref 159), (1, .int (nI (k))), (2, .int (nI (i))), (3, .int (nI (jV s k i)))]) dX11_build_104 (by decide) rfl ?_
        refine aX_aload_n dX11_build_105 rfl ?_
        refine aX_get dX11_build_106 lfX11_92 s159 (f159_29 hR) ?_
        refine aX_iload_n dX11_build_109 rfl ?_
        refine aX_sipush (v := nI 10000) dX11_build_110 (by decide) ?_
        refine aX_aload_n dX11_build_113 rfl ?_
        refine aX_get dX11_build_114 lfX11_7 s159 (f159_1 hR) ?_
        refine aX_iload_n dX11_build_117 rfl ?_
        refine nIald (v := nI (s.2.1 i)) dX11_build_118 s160 (by first | omega | exact Nat.lt_of_le_of_lt (Nat.mod_le _ _) (by omega)) (by decide) ((hs1.2 i hil).1) ?_
        refine nMul dX11_build_119 ?_
        refine nIast dX11_build_120 s184 (by first | omega | exact Nat.lt_of_le_of_lt (Nat.mod_le _ _) (by omega)) (by decide) ?_
        obtain ⟨I2, hI2⟩ : ∃ lz, lz = (aU I1 184 (jV s k i) (nI (10000 * (s.2.1 i)))) := ⟨_, rfl⟩
        rw [← hI2]
        have hk2 : ∀ q j, q ≠ 184 → I2 q j = I1 q j := fun q j g => by rw [hI2, aU_n (by omega)]
        have hkI2 : bdK I I2 := fun q j g => (hk2 q j (by omega)).trans (hkI q j g)
        refine aX_aload_n dX11_build_121 rfl ?_
        refine aX_get dX11_build_122 lfX11_92 s159 (f159_29 hR) ?_
        refine aX_iload_n dX11_build_125 rfl ?_
        refine nIald (v := nI (10000 * s.2.1 i)) dX11_build_126 s184 (by first | omega | exact Nat.lt_of_le_of_lt (Nat.mod_le _ _) (by omega)) (by decide) (by show I2 184 (jV s k i) = _; rw [hI2, aU_s]) ?_
        refine kI2l dX11_build_127 (by first | omega | exact Nat.lt_of_le_of_lt (Nat.mod_le _ _) (by omega)) ?_
        refine aX_lstore (lv' := [(0, .ref 159), (1, .int (nI (k))), (2, .int (nI (i))), (3, .int (nI (jV s k i))), (4, .long (lN (10000 * s.2.1 i)))]) dX11_build_128 (by decide) rfl ?_
        refine aX_aload_n dX11_build_130 rfl ?_
        refine aX_get dX11_build_131 lfX11_86 s159 (f159_27 hR) ?_
        refine aX_bipush (v := nI 20) dX11_build_134 (by decide) ?_
        refine aX_iload_n dX11_build_136 rfl ?_
        refine nMul dX11_build_137 ?_
        refine aX_iload_n dX11_build_138 rfl ?_
        refine nAdd dX11_build_139 ?_
        refine aX_dup2_11 dX11_build_140 rfl rfl ?_
        refine nLald (v := lZ (S0.1 (jV s k i) (jV s k i))) dX11_build_141 s182 (by first | omega | exact Nat.lt_of_le_of_lt (Nat.mod_le _ _) (by omega)) (by decide) (b1.1 _ _ hxl hxl) ?_
        refine aX_aload_n dX11_build_142 rfl ?_
        refine aX_get dX11_build_143 lfX11_48 s159 (f159_11 hR) ?_
        refine aX_iconst (v := nI 4) dX11_build_146 (by decide) ?_
        refine nIald (v := nI (w 4)) dX11_build_147 s170 (by first | omega | exact Nat.lt_of_le_of_lt (Nat.mod_le _ _) (by omega)) (by decide) ((hk2 170 4 (by omega)).trans (hw4 4 (by decide))) ?_
        refine kI2l dX11_build_148 (by first | omega | exact Nat.lt_of_le_of_lt (Nat.mod_le _ _) (by omega)) ?_
        refine yAdd (a := S0.1 (jV s k i) (jV s k i)) (b := ((w 4 : Nat) : Int)) dX11_build_149 (rfl) (kZ _) ?_
        refine nLast dX11_build_150 s182 (by first | omega | exact Nat.lt_of_le_of_lt (Nat.mod_le _ _) (by omega)) (by decide) ?_
        refine aX_aload_n dX11_build_151 rfl ?_
        refine aX_get dX11_build_152 lfX11_89 s159 (f159_28 hR) ?_
        refine aX_iload_n dX11_build_155 rfl ?_
        refine aX_dup2_11 dX11_build_156 rfl rfl ?_
        refine nLald (v := lZ (S0.2.1 (jV s k i))) dX11_build_157 s183 (by first | omega | exact Nat.lt_of_le_of_lt (Nat.mod_le _ _) (by omega)) (by decide) (by show (aU L1 182 ((20 * (jV s k i)) + (jV s k i)) (lZ ((S0.1 (jV s k i) (jV s k i)) + (((w 4 : Nat) : Int))))) 183 (jV s k i) = _; rw [aU_n (by omega)]; exact b1.2.1 _ hxl) ?_
        refine aX_aload_n dX11_build_158 rfl ?_
        refine aX_get dX11_build_159 lfX11_48 s159 (f159_11 hR) ?_
        refine aX_iconst (v := nI 4) dX11_build_162 (by decide) ?_
        refine nIald (v := nI (w 4)) dX11_build_163 s170 (by first | omega | exact Nat.lt_of_le_of_lt (Nat.mod_le _ _) (by omega)) (by decide) ((hk2 170 4 (by omega)).trans (hw4 4 (by decide))) ?_
        refine kI2l dX11_build_164 (by first | omega | exact Nat.lt_of_le_of_lt (Nat.mod_le _ _) (by omega)) ?_
        refine aX_lload dX11_build_165 rfl ?_
        refine kMul dX11_build_167 ?_
        refine yAdd (a := S0.2.1 (jV s k i)) (b := (((w 4) * (10000 * s.2.1 i) : Nat) : Int)) dX11_build_168 (rfl) (kZ _) ?_
        refine nLast dX11_build_169 s183 (by first | omega | exact Nat.lt_of_le_of_lt (Nat.mod_le _ _) (by omega)) (by decide) ?_
        refine aX_aload_n dX11_build_170 rfl ?_
        refine aX_dup dX11_build_171 rfl ?_
        refine aX_get (v := .long (lZ (S0.2.2))) dX11_build_172 lfX11_209 s159 (congrArg Value.long (show (aU (aU L1 182 ((20 * (jV s k i)) + (jV s k i)) (lZ ((S0.1 (jV s k i) (jV s k i)) + (((w 4 : Nat) : Int))))) 183 (jV s k i) (lZ ((S0.2.1 (jV s k i)) + ((((w 4) * (10000 * s.2.1 i) : Nat) : Int))))) 159 33 = lZ S0.2.2 by rw [aU_n (by omega), aU_n (by omega)]; exact b1.2.2)) ?_
        refine aX_aload_n dX11_build_175 rfl ?_
        refine aX_get dX11_build_176 lfX11_48 s159 (f159_11 hR) ?_
        refine aX_iconst (v := nI 4) dX11_build_179 (by decide) ?_
        refine nIald (v := nI (w 4)) dX11_build_180 s170 (by first | omega | exact Nat.lt_of_le_of_lt (Nat.mod_le _ _) (by omega)) (by decide) ((hk2 170 4 (by omega)).trans (hw4 4 (by decide))) ?_
        refine kI2l dX11_build_181 (by first | omega | exact Nat.lt_of_le_of_lt (Nat.mod_le _ _) (by omega)) ?_
        refine aX_lload dX11_build_182 rfl ?_
        refine kMul dX11_build_184 ?_
        refine aX_lload dX11_build_185 rfl ?_
        refine kMul dX11_build_187 ?_
        refine yAdd (a := S0.2.2) (b := ((((w 4) * (10000 * s.2.1 i)) * (10000 * s.2.1 i) : Nat) : Int)) dX11_build_188 (rfl) (kZ _) ?_
        refine pL dX11_build_189 lfX11_209 (fun _ _ _ hq => by cases hq; exact Or.inl rfl) s159 rfl ?_
        obtain ⟨L3, hL3⟩ : ∃ lz, lz = (aU (aU (aU L1 182 ((20 * (jV s k i)) + (jV s k i)) (lZ ((S0.1 (jV s k i) (jV s k i)) + (((w 4 : Nat) : Int))))) 183 (jV s k i) (lZ ((S0.2.1 (jV s k i)) + ((((w 4) * (10000 * s.2.1 i) : Nat) : Int))))) 159 33 (lZ (S0.2.2 + (((((w 4) * (10000 * s.2.1 i)) * (10000 * s.2.1 i) : Nat) : Int))))) := ⟨_, rfl⟩
        rw [← hL3]
        have hb3 : bdS I2 L3 (jVn s) (rT1 s r (jChs s r w) w k ++ rK1 s r (jChs s r w) w k i) ((jEs s k ++ (jML s (jB s k) i).map (jV s k)) ++ [jV s k i]) (w 4 : Int) (eqOf s) := by
          refine ⟨_, f0, ?_, sEr_eq b2 (jV s k i), fun a ha => ⟨(hk2 185 a (by omega)).trans (b3 a ha).1, (b3 a ha).2⟩, b4⟩
          have hr3 := rs_C (rs_B (rs_A (x := jV s k i) (y := jV s k i) b1 hn20 hxl (S0.1 (jV s k i) (jV s k i) + ((w 4 : Nat) : Int))) (x := jV s k i) (S0.2.1 (jV s k i) + ((w 4 * (10000 * s.2.1 i) : Nat) : Int))) (S0.2.2 + (((w 4 * (10000 * s.2.1 i)) * (10000 * s.2.1 i) : Nat) : Int))
          rw [hL3, hqx, ← Int.natCast_mul, ← Int.natCast_mul]
          exact hr3
        have hkL3 : rqK L L3 := fun q j g => by rw [hL3, aU_n (by omega), aU_n (by omega), aU_n (by omega)]; exact hkL q j g
        have heq3 : ∀ a, a ∈ (jEs s k ++ (jML s (jB s k) i).map (jV s k)) ++ [jV s k i] → I2 184 a = nI (eqN s a) := fun a ha => by
          by_cases e : a = jV s k i
          · rw [e, hI2, aU_s, hex]
          · rw [hI2, aU_n (by omega)]
            rcases List.mem_append.mp ha with z | z
            · exact heq a z
            · exact absurd (List.mem_singleton.mp z) e
        refine aX_aload_n dX11_build_192 rfl ?_
        refine aX_iload_n dX11_build_193 rfl ?_
        refine aX_aload_n dX11_build_194 rfl ?_
        refine aX_get dX11_build_195 lfX11_75 s159 (f159_24 hR) ?_
        refine aX_iload_n dX11_build_198 rfl ?_
        refine nIald (v := nI (jChs s r w k)) dX11_build_199 s179 (by first | omega | exact Nat.lt_of_le_of_lt (Nat.mod_le _ _) (by omega)) (by decide) ((hkI2 179 k (by omega)).trans (hch k hk)) ?_
        refine aX_iload_n dX11_build_200 rfl ?_
        refine cVp (As := [.int (nI (k)), .int (nI (jChs s r w k)), .int (nI (i))]) (st := []) (v := .int (jTg s r (jB s k) (jChs s r w k) i)) dX11_build_201 kX11_build_195 s159 aEok0 rfl rfl (Nat.le_of_ble_eq_true rfl) (by rw [← hqb]; exact m_targetOf hR (mnRep_of (fun q j g => hkI2 q j (by omega)) hs) ho (msRep_of (fun q j g => hkI2 q j (by omega)) hS) (mlRep_of (fun q j _ _ => hkI2 q j (by omega)) hl) hqk (by rw [hqb]; exact jCo_pos (hcz.2 k hk).1) (by have := hcl; omega) hil (by rw [hqb]; exact hoi)) ?_
        refine aX_istore (lv' := [(0, .ref 159), (1, .int (nI (k))), (2, .int (nI (i))), (3, .int (nI (jV s k i))), (4, .long (lN (10000 * s.2.1 i))), (6, .int (jTg s r (jB s k) (jChs s r w k) i))]) dX11_build_204 (by decide) rfl ?_
        refine aX_iconst (v := nI 0) dX11_build_206 (by decide) ?_
        refine aX_istore (lv' := [(0, .ref 159), (1, .int (nI (k))), (2, .int (nI (i))), (3, .int (nI (jV s k i))), (4, .long (lN (10000 * s.2.1 i))), (6, .int (jTg s r (jB s k) (jChs s r w k) i)), (7, .int (nI (0)))]) dX11_build_207 (by decide) rfl ?_
        refine ml_bIn hR hs ho hS hl hg hw hcn hcz hch hn20 hk hil hoi (E9 := (jEs s k ++ (jML s (jB s k) i).map (jV s k)) ++ [jV s k i]) (fun I4 L4 hb4 heq4 h4 hkI4 hkL4 => ?_) _ 0 (by omega) rfl I2 L3 (by rw [show (jML s (jB s k) 0).map (tmCh s r (jChs s r w) w k i) = [] from rfl, List.append_nil]; exact hb3) heq3 (fun a ha => (hk2 186 a (by omega)).trans (h186 a ha)) hkI2 hkL3
        have hs4 : mnRep I4 s := mnRep_of (fun q j g => hkI4 q j (by omega)) hs
        have hS4 : msRep I4 s (jS s) := msRep_of (fun q j g => hkI4 q j (by omega)) hS
        have hcn4 : mcRep I4 s r := mcRep_of (fun q j g => hkI4 q j (by omega)) hcn
        have hEi : jEs s k ++ (jML s (jB s k) (i + 1)).map (jV s k) = (jEs s k ++ (jML s (jB s k) i).map (jV s k)) ++ [jV s k i] := by
          rw [show jML s (jB s k) (i + 1) = jML s (jB s k) i ++ [i] by show (if _ then _ else _) = _; rw [if_pos hoi], List.map_append, ← List.append_assoc]; rfl
        refine aX_iload_n dX11_build_272 rfl ?_
        refine nIf_le (tgt := 322) dX11_build_273 (by decide) (by first | omega | exact Nat.lt_of_le_of_lt (Nat.mod_le _ _) (by omega)) (fun c1 => ?_) (fun c1 => ?_)
        · have hmv : rMv s k i = false := by unfold rMv; rw [decide_eq_false (by omega)]; rfl
          refine nInc (lv' := [(0, .ref 159), (1, .int (nI (k))), (2, .int (nI (i + 1))), (3, .int (nI (jV s k i))), (4, .long (lN (10000 * s.2.1 i))), (6, .int (jTg s r (jB s k) (jChs s r w k) i)), (7, .int (nI (i)))]) dX11_build_322 rfl rfl (by decide) rfl ?_
          refine aX_goto (tgt := 76) dX11_build_325 (by decide) ?_
          refine aX_lv (lv' := [(0, .ref 159), (1, .int (nI (k))), (2, .int (nI (i + 1)))]) [0, 1, 2] rfl ?_
          have hTi : rT1 s r (jChs s r w) w k ++ rK1 s r (jChs s r w) w k (i + 1) = rT1 s r (jChs s r w) w k ++ rK1 s r (jChs s r w) w k i ++ (jML s (jB s k) i).map (tmCh s r (jChs s r w) w k i) := by
            rw [show rK1 s r (jChs s r w) w k (i + 1) = rK1 s r (jChs s r w) w k i ++ (jML s (jB s k) i).map (tmCh s r (jChs s r w) w k i) ++ (if rMv s k i then [tmN s w k i] else []) by show (if _ then _ else _) = _; rw [if_pos hoi], hmv]
            simp [List.append_assoc]
          exact ih (s.1 - (i + 1)) (by omega) (i + 1) (by omega) rfl I4 L4 (by rw [hTi, hEi]; exact hb4) (fun a ha => by rw [hEi] at ha; exact heq4 a ha) h4 hkI4 hkL4
        · have hk0 : 0 < k := c1
          obtain ⟨qp, hqp, hqpb⟩ := jQ (show k - 1 < (jS s).length by omega)
          refine aX_aload_n dX11_build_276 rfl ?_
          refine aX_iload_n dX11_build_277 rfl ?_
          refine aX_iconst (v := nI 1) dX11_build_278 (by decide) ?_
          refine nSub dX11_build_279 (by first | omega | exact Nat.lt_of_le_of_lt (Nat.mod_le _ _) (by omega)) ?_
          refine aX_iload_n dX11_build_280 rfl ?_
          refine cVp (As := [.int (nI (k - 1)), .int (nI (i))]) (st := []) (v := .int (bI (jOn s i (jB s (k - 1))))) dX11_build_281 kX11_build_163 s159 aEok0 rfl rfl (Nat.le_of_ble_eq_true rfl) (by rw [← hqpb]; exact m_sounds0 hR hs4 ho hS4 hSl hqp (by omega)) ?_
          refine bEq (tgt := 322) dX11_build_284 (by decide) (fun c2 => ?_) (fun c2 => ?_)
          · have hmv : rMv s k i = false := by unfold rMv; rw [c2, Bool.and_false]; rfl
            refine nInc (lv' := [(0, .ref 159), (1, .int (nI (k))), (2, .int (nI (i + 1))), (3, .int (nI (jV s k i))), (4, .long (lN (10000 * s.2.1 i))), (6, .int (jTg s r (jB s k) (jChs s r w k) i)), (7, .int (nI (i)))]) dX11_build_322 rfl rfl (by decide) rfl ?_
            refine aX_goto (tgt := 76) dX11_build_325 (by decide) ?_
            refine aX_lv (lv' := [(0, .ref 159), (1, .int (nI (k))), (2, .int (nI (i + 1)))]) [0, 1, 2] rfl ?_
            have hTi : rT1 s r (jChs s r w) w k ++ rK1 s r (jChs s r w) w k (i + 1) = rT1 s r (jChs s r w) w k ++ rK1 s r (jChs s r w) w k i ++ (jML s (jB s k) i).map (tmCh s r (jChs s r w) w k i) := by
              rw [show rK1 s r (jChs s r w) w k (i + 1) = rK1 s r (jChs s r w) w k i ++ (jML s (jB s k) i).map (tmCh s r (jChs s r w) w k i) ++ (if rMv s k i then [tmN s w k i] else []) by show (if _ then _ else _) = _; rw [if_pos hoi], hmv]
              simp [List.append_assoc]
            exact ih (s.1 - (i + 1)) (by omega) (i + 1) (by omega) rfl I4 L4 (by rw [hTi, hEi]; exact hb4) (fun a ha => by rw [hEi] at ha; exact heq4 a ha) h4 hkI4 hkL4
          · have hop : jOn s i (jB s (k - 1)) = true := c2
            refine aX_aload_n dX11_build_287 rfl ?_
            refine aX_get dX11_build_288 lfX11_19 s159 (f159_4 hR) ?_
            refine aX_iload_n dX11_build_291 rfl ?_
            refine nZald (v := bI (s.2.2.2.2 i)) dX11_build_292 s163 (by first | omega | exact Nat.lt_of_le_of_lt (Nat.mod_le _ _) (by omega)) (by decide) ((hs4.2 i hil).2.2.2) ?_
            refine bNe (tgt := 322) dX11_build_293 (by decide) (fun c3 => ?_) (fun c3 => ?_)
            · have hmv : rMv s k i = false := by unfold rMv; rw [c3]; simp
              refine nInc (lv' := [(0, .ref 159), (1, .int (nI (k))), (2, .int (nI (i + 1))), (3, .int (nI (jV s k i))), (4, .long (lN (10000 * s.2.1 i))), (6, .int (jTg s r (jB s k) (jChs s r w k) i)), (7, .int (nI (i)))]) dX11_build_322 rfl rfl (by decide) rfl ?_
              refine aX_goto (tgt := 76) dX11_build_325 (by decide) ?_
              refine aX_lv (lv' := [(0, .ref 159), (1, .int (nI (k))), (2, .int (nI (i + 1)))]) [0, 1, 2] rfl ?_
              have hTi : rT1 s r (jChs s r w) w k ++ rK1 s r (jChs s r w) w k (i + 1) = rT1 s r (jChs s r w) w k ++ rK1 s r (jChs s r w) w k i ++ (jML s (jB s k) i).map (tmCh s r (jChs s r w) w k i) := by
                rw [show rK1 s r (jChs s r w) w k (i + 1) = rK1 s r (jChs s r w) w k i ++ (jML s (jB s k) i).map (tmCh s r (jChs s r w) w k i) ++ (if rMv s k i then [tmN s w k i] else []) by show (if _ then _ else _) = _; rw [if_pos hoi], hmv]
                simp [List.append_assoc]
              exact ih (s.1 - (i + 1)) (by omega) (i + 1) (by omega) rfl I4 L4 (by rw [hTi, hEi]; exact hb4) (fun a ha => by rw [hEi] at ha; exact heq4 a ha) h4 hkI4 hkL4
            · have hmv : rMv s k i = true := by unfold rMv; rw [c3, hop, decide_eq_true hk0]; rfl
              have hpl := jV_lt (show k - 1 < (jS s).length by omega) hil hop
              refine aX_aload_n dX11_build_296 rfl ?_
              refine aX_iload_n dX11_build_297 rfl ?_
              refine aX_aload_n dX11_build_298 rfl ?_
              refine aX_get dX11_build_299 lfX11_69 s159 (f159_22 hR) ?_
              refine aX_bipush (v := nI 16) dX11_build_302 (by decide) ?_
              refine aX_iload_n dX11_build_304 rfl ?_
              refine aX_iconst (v := nI 1) dX11_build_305 (by decide) ?_
              refine nSub dX11_build_306 (by first | omega | exact Nat.lt_of_le_of_lt (Nat.mod_le _ _) (by omega)) ?_
              refine nMul dX11_build_307 ?_
              refine aX_iload_n dX11_build_308 rfl ?_
              refine nAdd dX11_build_309 ?_
              refine nIald (v := nI (jV s (k - 1) i)) dX11_build_310 s177 (by first | omega | exact Nat.lt_of_le_of_lt (Nat.mod_le _ _) (by omega)) (by decide) (hcn4.2.1 (k - 1) qp i hqp (jML_mem.mpr ⟨hil, by rw [hqpb]; exact hop⟩)) ?_
              refine aX_lconst (v := lN 0) dX11_build_311 rfl ?_
              refine aX_aload_n dX11_build_312 rfl ?_
              refine aX_get dX11_build_313 lfX11_48 s159 (f159_11 hR) ?_
              refine aX_iconst (v := nI 3) dX11_build_316 (by decide) ?_
              refine nIald (v := nI (w 3)) dX11_build_317 s170 (by first | omega | exact Nat.lt_of_le_of_lt (Nat.mod_le _ _) (by omega)) (by decide) (((hkI4 170 3 (by omega)).trans (hw.2 3 (by decide)))) ?_
              refine kI2l dX11_build_318 (by first | omega | exact Nat.lt_of_le_of_lt (Nat.mod_le _ _) (by omega)) ?_
              refine cV (As := [.int (nI (jV s k i)), .int (nI (jV s (k - 1) i)), .long (lN (0)), .long (lN (w 3))]) (st := []) dX11_build_319 kX11_build_213 s159 aEok0 rfl rfl (Nat.le_of_ble_eq_true rfl) (m_addT hR hcn4.1 hn20 hb4 hxl hpl (t := 0) (u := 0) (w := w 3) (hwb.2 3 (by decide) (by decide)) (by rw [hqx, eqOf_V (show k - 1 < (jS s).length by omega) (jML_mem.mpr ⟨hil, hop⟩)]; omega) rfl) (fun ans' h' hq9 => ?_)
              obtain ⟨rfl, I5, L5, rfl, g1, g2, g3⟩ := hq9
              refine ⟨rfl, ?_⟩
              refine nInc (lv' := [(0, .ref 159), (1, .int (nI (k))), (2, .int (nI (i + 1))), (3, .int (nI (jV s k i))), (4, .long (lN (10000 * s.2.1 i))), (6, .int (jTg s r (jB s k) (jChs s r w k) i)), (7, .int (nI (i)))]) dX11_build_322 rfl rfl (by decide) rfl ?_
              refine aX_goto (tgt := 76) dX11_build_325 (by decide) ?_
              refine aX_lv (lv' := [(0, .ref 159), (1, .int (nI (k))), (2, .int (nI (i + 1)))]) [0, 1, 2] rfl ?_
              have hTi : rT1 s r (jChs s r w) w k ++ rK1 s r (jChs s r w) w k (i + 1) = rT1 s r (jChs s r w) w k ++ rK1 s r (jChs s r w) w k i ++ (jML s (jB s k) i).map (tmCh s r (jChs s r w) w k i) ++ [tmN s w k i] := by
                rw [show rK1 s r (jChs s r w) w k (i + 1) = rK1 s r (jChs s r w) w k i ++ (jML s (jB s k) i).map (tmCh s r (jChs s r w) w k i) ++ (if rMv s k i then [tmN s w k i] else []) by show (if _ then _ else _) = _; rw [if_pos hoi], hmv]
                simp [List.append_assoc]
              exact ih (s.1 - (i + 1)) (by omega) (i + 1) (by omega) rfl I5 L5 (by rw [hTi, hEi]; exact g1) (fun a ha => by rw [hEi] at ha; exact (g2 184 a (by omega)).trans (heq4 a ha)) (fun a ha => (g2 186 a (by omega)).trans (h4 a ha)) (fun q j g => (g2 q j (by omega)).trans (hkI4 q j g)) (rqK_trans hkL4 g3)
set_option maxHeartbeats 1000000 in
theorem ml_bSt {I : Nat → Nat → Int32} {L : Nat → Nat → Int64} {R : Nat → Nat → Option Nat} (hR : aRf R) {s : jN} (hs : mnRep I s) (ho : jOk s) (hS : msRep I s (jS s)) {r : jR} (hl : mlRep I r) (hg : rGood r) {w : jW} (hw : mwRep I w) (hcn : mcRep I s r) (hcz : czOk s r) (hch : ∀ k, k < (jS s).length → I 179 k = nI (jChs s r w k)) (hn20 : jVn s ≤ 20) : ∀ (k9 k : Nat), k ≤ (jS s).length → ((jS s).length) - k = k9 → ∀ (I1 : Nat → Nat → Int32) (L1 : Nat → Nat → Int64), bdS I1 L1 (jVn s) (rT1 s r (jChs s r w) w k) (jEs s k) (w 4 : Int) (eqOf s) → (∀ a, a ∈ jEs s k → I1 184 a = nI (eqN s a)) → (∀ a, a < jVn s → I1 186 a = bI false) → bdK I I1 → rqK L L1 → aX mX11_build aE0 (sh0, I1, L1, R) 66 [(0, .ref 159), (1, .int (nI (k)))] [] 0 0 (fun ans h' => ans = none ∧ ∃ I' L', h' = (sh0, I', L', R) ∧ bdS I' L' (jVn s) (rT1 s r (jChs s r w) w (jS s).length) (jE s) (w 4 : Int) (eqOf s) ∧ (∀ a, a < jVn s → I' 184 a = nI (eqN s a)) ∧ (∀ a, a < jVn s → I' 186 a = bI false) ∧ bdK I I' ∧ rqK L L') := by
  intro k9
  induction k9 using Nat.strongRecOn with
  | _ k9 ih =>
    intro k hi hk9 I1  L1  hb heq h186 hkI hkL
    have hn := ho.1
    have hSl := jS_len s
    have hs1 : mnRep I1 s := mnRep_of (fun q j g => hkI q j (by omega)) hs
    have hS1 : msRep I1 s (jS s) := msRep_of (fun q j g => hkI q j (by omega)) hS
    have hl1 : mlRep I1 r := mlRep_of (fun q j _ _ => hkI q j (by omega)) hl
    have hcn1 : mcRep I1 s r := mcRep_of (fun q j g => hkI q j (by omega)) hcn
    have hw4 : ∀ i, i < 5 → I1 170 i = nI (w i) := fun i hi => (hkI 170 i (by omega)).trans (hw.2 i hi)
    have hwb := hw.1
    have hwb2 := hw.1.2 2 (by decide) (by decide)
    have hwb3 := hw.1.2 3 (by decide) (by decide)
    have hwb4 := hw.1.2 4 (by decide) (by decide)
    refine aX_iload_n dX11_build_66 rfl ?_
    refine aX_aload_n dX11_build_67 rfl ?_
    refine aX_get (v := .int (nI ((jS s).length))) dX11_build_68 lfX11_154 s159 (congrArg Value.int (hS1.1)) ?_
    refine nGe (tgt := 334) dX11_build_71 (by decide) (by first | omega | exact Nat.lt_of_le_of_lt (Nat.mod_le _ _) (by omega)) (by first | omega | exact Nat.lt_of_le_of_lt (Nat.mod_le _ _) (by omega)) (fun c1 => ?_) (fun c1 => ?_)
    · exact rV dX11_build_334 rfl (⟨rfl, I1, L1, rfl, by rw [show k = (jS s).length by omega] at hb; exact hb, fun a ha => heq a (by rw [show k = (jS s).length by omega]; exact jEs_all ha), h186, hkI, hkL⟩)
    · refine aX_iconst (v := nI 0) dX11_build_74 (by decide) ?_
      refine aX_istore_n (lv' := [(0, .ref 159), (1, .int (nI (k))), (2, .int (nI (0)))]) dX11_build_75 (by decide) rfl ?_
      refine ml_bNt hR hs ho hS hl hg hw hcn hcz hch hn20 (k := k) (by omega) (fun I2 L2 hb2 heq2 h2 hkI2 hkL2 => ?_) _ 0 (by omega) rfl I1 L1 (by rw [show rK1 s r (jChs s r w) w k 0 = [] from rfl, List.append_nil, show (jML s (jB s k) 0).map (jV s k) = [] from rfl, List.append_nil]; exact hb) (fun a ha => heq a (by rw [show (jML s (jB s k) 0).map (jV s k) = [] from rfl, List.append_nil] at ha; exact ha)) h186 hkI hkL
      refine nInc (lv' := [(0, .ref 159), (1, .int (nI (k + 1))), (2, .int (nI (s.1)))]) dX11_build_328 rfl rfl (by decide) rfl ?_
      refine aX_goto (tgt := 66) dX11_build_331 (by decide) ?_
      refine aX_lv (lv' := [(0, .ref 159), (1, .int (nI (k + 1)))]) [0, 1] rfl ?_
      exact ih ((jS s).length - (k + 1)) (by omega) (k + 1) (by omega) rfl I2 L2 hb2 heq2 h2 hkI2 hkL2
set_option maxHeartbeats 1000000 in
theorem ml_bZ2 {I : Nat → Nat → Int32} {L : Nat → Nat → Int64} {R : Nat → Nat → Option Nat} (hR : aRf R) {s : jN} (hs : mnRep I s) (ho : jOk s) (hS : msRep I s (jS s)) {r : jR} (hl : mlRep I r) (hg : rGood r) {w : jW} (hw : mwRep I w) (hcn : mcRep I s r) (hcz : czOk s r) (hch : ∀ k, k < (jS s).length → I 179 k = nI (jChs s r w k)) (hn20 : jVn s ≤ 20) : ∀ (k9 k : Nat), k ≤ jVn s → (jVn s) - k = k9 → ∀ (I1 : Nat → Nat → Int32) (L1 : Nat → Nat → Int64), (∀ j, j < 400 → L1 182 j = lN 0) → (∀ j, j < k → L1 183 j = lN 0) → L1 159 33 = lN 0 → (∀ j, j < k → I1 185 j = nI j) → (∀ j, j < k → I1 186 j = bI false) → bdK I I1 → rqK L L1 → aX mX11_build aE0 (sh0, I1, L1, R) 29 [(0, .ref 159), (1, .int (nI (k)))] [] 0 0 (fun ans h' => ans = none ∧ ∃ I' L', h' = (sh0, I', L', R) ∧ bdS I' L' (jVn s) (rT1 s r (jChs s r w) w (jS s).length) (jE s) (w 4 : Int) (eqOf s) ∧ (∀ a, a < jVn s → I' 184 a = nI (eqN s a)) ∧ (∀ a, a < jVn s → I' 186 a = bI false) ∧ bdK I I' ∧ rqK L L') := by
  intro k9
  induction k9 using Nat.strongRecOn with
  | _ k9 ih =>
    intro k hi hk9 I1  L1  h182 h183 h33 h185 h186 hkI hkL
    refine aX_iload_n dX11_build_29 rfl ?_
    refine aX_aload_n dX11_build_30 rfl ?_
    refine aX_get (v := .int (nI (jVn s))) dX11_build_31 lfX11_160 s159 (congrArg Value.int ((hkI 159 21 (by omega)).trans hcn.1)) ?_
    refine nGe (tgt := 64) dX11_build_34 (by decide) (by first | omega | exact Nat.lt_of_le_of_lt (Nat.mod_le _ _) (by omega)) (by first | omega | exact Nat.lt_of_le_of_lt (Nat.mod_le _ _) (by omega)) (fun c1 => ?_) (fun c1 => ?_)
    · refine aX_iconst (v := nI 0) dX11_build_64 (by decide) ?_
      refine aX_istore_n (lv' := [(0, .ref 159), (1, .int (nI (0)))]) dX11_build_65 (by decide) rfl ?_
      exact ml_bSt hR hs ho hS hl hg hw hcn hcz hch hn20 _ 0 (by omega) rfl I1 L1 (bdS_0 h182 (fun i hi => h183 i (by omega)) h33 hn20 (fun i hi => h185 i (by omega))) (fun a ha => by cases ha) (fun a ha => h186 a (by omega)) hkI hkL
    · refine aX_aload_n dX11_build_37 rfl ?_
      refine aX_get dX11_build_38 lfX11_89 s159 (f159_28 hR) ?_
      refine aX_iload_n dX11_build_41 rfl ?_
      refine aX_lconst (v := lN 0) dX11_build_42 rfl ?_
      refine nLast dX11_build_43 s183 (by first | omega | exact Nat.lt_of_le_of_lt (Nat.mod_le _ _) (by omega)) (by decide) ?_
      refine aX_aload_n dX11_build_44 rfl ?_
      refine aX_get dX11_build_45 lfX11_95 s159 (f159_30 hR) ?_
      refine aX_iload_n dX11_build_48 rfl ?_
      refine aX_iload_n dX11_build_49 rfl ?_
      refine nIast dX11_build_50 s185 (by first | omega | exact Nat.lt_of_le_of_lt (Nat.mod_le _ _) (by omega)) (by decide) ?_
      refine aX_aload_n dX11_build_51 rfl ?_
      refine aX_get dX11_build_52 lfX11_98 s159 (f159_31 hR) ?_
      refine aX_iload_n dX11_build_55 rfl ?_
      refine aX_iconst (v := nI 0) dX11_build_56 (by decide) ?_
      refine nZast (b := false) dX11_build_57 s186 (by omega) (by decide) ?_
      refine nInc (lv' := [(0, .ref 159), (1, .int (nI (k + 1)))]) dX11_build_58 rfl rfl (by decide) rfl ?_
      refine aX_goto (tgt := 29) dX11_build_61 (by decide) ?_
      exact ih (jVn s - (k + 1)) (by omega) (k + 1) (by omega) rfl _ _ (fun j hj => by rw [aU_n (by omega)]; exact h182 j hj) (fun j hj => by
        by_cases e : j = k
        · subst e; rw [aU_s]
        · rw [aU_n (by omega)]; exact h183 j (by omega)) (by rw [aU_n (by omega)]; exact h33) (fun j hj => by
        by_cases e : j = k
        · subst e; rw [aU_n (by omega), aU_s]
        · rw [aU_n (by omega), aU_n (by omega)]; exact h185 j (by omega)) (fun j hj => by
        by_cases e : j = k
        · subst e; rw [aU_s]
        · rw [aU_n (by omega), aU_n (by omega)]; exact h186 j (by omega)) (fun q j g => by rw [aU_n (by omega), aU_n (by omega)]; exact hkI q j g) (fun q j g => by rw [aU_n (by omega)]; exact hkL q j g)
set_option maxHeartbeats 1000000 in
theorem ml_bZ1 {I : Nat → Nat → Int32} {L : Nat → Nat → Int64} {R : Nat → Nat → Option Nat} (hR : aRf R) {s : jN} (hs : mnRep I s) (ho : jOk s) (hS : msRep I s (jS s)) {r : jR} (hl : mlRep I r) (hg : rGood r) {w : jW} (hw : mwRep I w) (hcn : mcRep I s r) (hcz : czOk s r) (hch : ∀ k, k < (jS s).length → I 179 k = nI (jChs s r w k)) (hn20 : jVn s ≤ 20) : ∀ (k9 k : Nat), k ≤ 400 → 400 - k = k9 → ∀ (L1 : Nat → Nat → Int64), (∀ j, j < k → L1 182 j = lN 0) → L1 159 33 = lN 0 → rqK L L1 → aX mX11_build aE0 (sh0, I, L1, R) 7 [(0, .ref 159), (1, .int (nI (k)))] [] 0 0 (fun ans h' => ans = none ∧ ∃ I' L', h' = (sh0, I', L', R) ∧ bdS I' L' (jVn s) (rT1 s r (jChs s r w) w (jS s).length) (jE s) (w 4 : Int) (eqOf s) ∧ (∀ a, a < jVn s → I' 184 a = nI (eqN s a)) ∧ (∀ a, a < jVn s → I' 186 a = bI false) ∧ bdK I I' ∧ rqK L L') := by
  intro k9
  induction k9 using Nat.strongRecOn with
  | _ k9 ih =>
    intro k hi hk9 L1  h182 h33 hkL
    refine aX_iload_n dX11_build_7 rfl ?_
    refine aX_sipush (v := nI 400) dX11_build_8 (by decide) ?_
    refine nGe (tgt := 27) dX11_build_11 (by decide) (by first | omega | exact Nat.lt_of_le_of_lt (Nat.mod_le _ _) (by omega)) (by first | omega | exact Nat.lt_of_le_of_lt (Nat.mod_le _ _) (by omega)) (fun c1 => ?_) (fun c1 => ?_)
    · refine aX_iconst (v := nI 0) dX11_build_27 (by decide) ?_
      refine aX_istore_n (lv' := [(0, .ref 159), (1, .int (nI (0)))]) dX11_build_28 (by decide) rfl ?_
      exact ml_bZ2 hR hs ho hS hl hg hw hcn hcz hch hn20 _ 0 (by omega) rfl I L1 (fun j hj => h182 j (by omega)) (fun j h => by omega) h33 (fun j h => by omega) (fun j h => by omega) (fun _ _ _ => rfl) hkL
    · refine aX_aload_n dX11_build_14 rfl ?_
      refine aX_get dX11_build_15 lfX11_86 s159 (f159_27 hR) ?_
      refine aX_iload_n dX11_build_18 rfl ?_
      refine aX_lconst (v := lN 0) dX11_build_19 rfl ?_
      refine nLast dX11_build_20 s182 (by first | omega | exact Nat.lt_of_le_of_lt (Nat.mod_le _ _) (by omega)) (by decide) ?_
      refine nInc (lv' := [(0, .ref 159), (1, .int (nI (k + 1)))]) dX11_build_21 rfl rfl (by decide) rfl ?_
      refine aX_goto (tgt := 7) dX11_build_24 (by decide) ?_
      exact ih (400 - (k + 1)) (by omega) (k + 1) (by omega) rfl _ (fun j hj => by
        by_cases e : j = k
        · subst e; rw [aU_s]
        · rw [aU_n (by omega)]; exact h182 j (by omega)) (by rw [aU_n (by omega)]; exact h33) (fun q j g => by rw [aU_n (by omega)]; exact hkL q j g)
set_option maxHeartbeats 1000000 in
theorem m_build {I : Nat → Nat → Int32} {L : Nat → Nat → Int64} {R : Nat → Nat → Option Nat} (hR : aRf R) {s : jN} (hs : mnRep I s) (ho : jOk s) (hS : msRep I s (jS s)) {r : jR} (hl : mlRep I r) (hg : rGood r) {w : jW} (hw : mwRep I w) (hcn : mcRep I s r) (hcz : czOk s r) (hch : ∀ k, k < (jS s).length → I 179 k = nI (jChs s r w k)) (hn20 : jVn s ≤ 20) : aM mX11_build [.ref 159] (sh0, I, L, R) (fun ans h' => ans = none ∧ ∃ I' L', h' = (sh0, I', L', R) ∧ bdS I' L' (jVn s) (rT1 s r (jChs s r w) w (jS s).length) (jE s) (w 4 : Int) (eqOf s) ∧ (∀ a, a < jVn s → I' 184 a = nI (eqN s a)) ∧ (∀ a, a < jVn s → I' 186 a = bI false) ∧ bdK I I' ∧ rqK L L') := by
  refine aM_of plX11_build (Nat.le_of_ble_eq_true rfl) ?_
  refine aX_aload_n dX11_build_0 rfl ?_
  refine aX_lconst (v := lN 0) dX11_build_1 rfl ?_
  refine pL dX11_build_2 lfX11_209 (fun _ _ _ hq => by cases hq; exact Or.inl rfl) s159 rfl ?_
  refine aX_iconst (v := nI 0) dX11_build_5 (by decide) ?_
  refine aX_istore_n (lv' := [(0, .ref 159), (1, .int (nI (0)))]) dX11_build_6 (by decide) rfl ?_
  exact ml_bZ1 hR hs ho hS hl hg hw hcn hcz hch hn20 _ 0 (by omega) rfl _ (fun j h => by omega) (by rw [aU_s]) (fun q j g => by rw [aU_n (by omega)])
